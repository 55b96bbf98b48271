abbrev q_X2_init : MI := (yX2_init, cX2_init, 1, none)
def t_X2_init : Tab := [(0, [], (.aload_n 0, 1, 0, [], .returned)),
  (1, [307, 120, 119], (.invokespecial 5, 4, 1, [], .returned)),
  (4, [], (.aload_n 0, 5, 0, [], .returned)),
  (5, [], (.bipush 12, 7, 0, [], .constant "" 0 (12))),
  (7, [], (.bipush 17, 9, 0, [], .constant "" 0 (17))),
  (9, [308, 309, 178], (.multianewarray 11 2, 13, 7, [0], .arrayClass .int)),
  (13, [310], (.putfield 13, 16, 2, [0, 2], .returned)),
  (16, [], (.return_, 17, 0, [], .returned))]
theorem ck_X2_init : okT q_X2_init t_X2_init = true := by decide +kernel
theorem e_X2_init_0 : lk t_X2_init 0 = some (.aload_n 0, 1, 0, [], .returned) := rfl
theorem e_X2_init_1 : lk t_X2_init 1 = some (.invokespecial 5, 4, 1, [], .returned) := rfl
theorem e_X2_init_4 : lk t_X2_init 4 = some (.aload_n 0, 5, 0, [], .returned) := rfl
theorem e_X2_init_5 : lk t_X2_init 5 = some (.bipush 12, 7, 0, [], .constant "" 0 (12)) := rfl
theorem e_X2_init_7 : lk t_X2_init 7 = some (.bipush 17, 9, 0, [], .constant "" 0 (17)) := rfl
theorem e_X2_init_9 : lk t_X2_init 9 = some (.multianewarray 11 2, 13, 7, [0], .arrayClass .int) := rfl
theorem e_X2_init_13 : lk t_X2_init 13 = some (.putfield 13, 16, 2, [0, 2], .returned) := rfl
theorem e_X2_init_16 : lk t_X2_init 16 = some (.return_, 17, 0, [], .returned) := rfl
abbrev q_X2_clear : MI := (yX2_clear, cX2_clear, 1, none)
def t_X2_clear : Tab := [(0, [], (.aload_n 0, 1, 0, [], .returned)),
  (1, [], (.iconst 0, 2, 0, [], .constant "" 0 (0))),
  (2, [311], (.putfield 16, 5, 2, [1, 0], .returned)),
  (5, [], (.aload_n 0, 6, 0, [], .returned)),
  (6, [], (.iconst 0, 7, 0, [], .constant "" 0 (0))),
  (7, [312], (.putfield 20, 10, 2, [2, 0], .returned)),
  (10, [], (.return_, 11, 0, [], .returned))]
theorem ck_X2_clear : okT q_X2_clear t_X2_clear = true := by decide +kernel
theorem e_X2_clear_0 : lk t_X2_clear 0 = some (.aload_n 0, 1, 0, [], .returned) := rfl
theorem e_X2_clear_1 : lk t_X2_clear 1 = some (.iconst 0, 2, 0, [], .constant "" 0 (0)) := rfl
theorem e_X2_clear_2 : lk t_X2_clear 2 = some (.putfield 16, 5, 2, [1, 0], .returned) := rfl
theorem e_X2_clear_5 : lk t_X2_clear 5 = some (.aload_n 0, 6, 0, [], .returned) := rfl
theorem e_X2_clear_6 : lk t_X2_clear 6 = some (.iconst 0, 7, 0, [], .constant "" 0 (0)) := rfl
theorem e_X2_clear_7 : lk t_X2_clear 7 = some (.putfield 20, 10, 2, [2, 0], .returned) := rfl
theorem e_X2_clear_10 : lk t_X2_clear 10 = some (.return_, 11, 0, [], .returned) := rfl
abbrev q_X2_has : MI := (yX2_has, cX2_has, 2, (some .boolean))
def t_X2_has : Tab := [(0, [], (.iload_n 1, 1, 1, [], .returned)),
  (1, [], (.ifCond .lt 15, 4, 16, [], .returned)),
  (4, [], (.iload_n 1, 5, 1, [], .returned)),
  (5, [], (.aload_n 0, 6, 0, [], .returned)),
  (6, [311], (.getfield 16, 9, 2, [1, 0], .returned)),
  (9, [], (.if_icmp .ge 7, 12, 16, [], .returned)),
  (12, [], (.iconst 1, 13, 0, [], .constant "" 0 (1))),
  (13, [], (.goto 4, 16, 17, [], .returned)),
  (16, [], (.iconst 0, 17, 0, [], .constant "" 0 (0))),
  (17, [], (.ireturn, 18, 1, [], .returned))]
theorem ck_X2_has : okT q_X2_has t_X2_has = true := by decide +kernel
theorem e_X2_has_0 : lk t_X2_has 0 = some (.iload_n 1, 1, 1, [], .returned) := rfl
theorem e_X2_has_1 : lk t_X2_has 1 = some (.ifCond .lt 15, 4, 16, [], .returned) := rfl
theorem e_X2_has_4 : lk t_X2_has 4 = some (.iload_n 1, 5, 1, [], .returned) := rfl
theorem e_X2_has_5 : lk t_X2_has 5 = some (.aload_n 0, 6, 0, [], .returned) := rfl
theorem e_X2_has_6 : lk t_X2_has 6 = some (.getfield 16, 9, 2, [1, 0], .returned) := rfl
theorem e_X2_has_9 : lk t_X2_has 9 = some (.if_icmp .ge 7, 12, 16, [], .returned) := rfl
theorem e_X2_has_12 : lk t_X2_has 12 = some (.iconst 1, 13, 0, [], .constant "" 0 (1)) := rfl
theorem e_X2_has_13 : lk t_X2_has 13 = some (.goto 4, 16, 17, [], .returned) := rfl
theorem e_X2_has_16 : lk t_X2_has 16 = some (.iconst 0, 17, 0, [], .constant "" 0 (0)) := rfl
theorem e_X2_has_17 : lk t_X2_has 17 = some (.ireturn, 18, 1, [], .returned) := rfl
abbrev q_X2_entry : MI := (yX2_entry, cX2_entry, 2, (some (.array .int)))
def t_X2_entry : Tab := [(0, [], (.aload_n 0, 1, 0, [], .returned)),
  (1, [310], (.getfield 13, 4, 2, [0, 2], .returned)),
  (4, [], (.aload_n 0, 5, 0, [], .returned)),
  (5, [312], (.getfield 20, 8, 2, [2, 0], .returned)),
  (8, [], (.bipush 12, 10, 0, [], .constant "" 0 (12))),
  (10, [], (.iadd, 11, 0, [], .returned)),
  (11, [], (.iconst 1, 12, 0, [], .constant "" 0 (1))),
  (12, [], (.isub, 13, 0, [], .returned)),
  (13, [], (.iload_n 1, 14, 1, [], .returned)),
  (14, [], (.isub, 15, 0, [], .returned)),
  (15, [], (.bipush 12, 17, 0, [], .constant "" 0 (12))),
  (17, [], (.irem, 18, 0, [], .returned)),
  (18, [], (.aaload, 19, 0, [], .returned)),
  (19, [], (.areturn, 20, 0, [], .returned))]
theorem ck_X2_entry : okT q_X2_entry t_X2_entry = true := by decide +kernel
theorem e_X2_entry_0 : lk t_X2_entry 0 = some (.aload_n 0, 1, 0, [], .returned) := rfl
theorem e_X2_entry_1 : lk t_X2_entry 1 = some (.getfield 13, 4, 2, [0, 2], .returned) := rfl
theorem e_X2_entry_4 : lk t_X2_entry 4 = some (.aload_n 0, 5, 0, [], .returned) := rfl
theorem e_X2_entry_5 : lk t_X2_entry 5 = some (.getfield 20, 8, 2, [2, 0], .returned) := rfl
theorem e_X2_entry_8 : lk t_X2_entry 8 = some (.bipush 12, 10, 0, [], .constant "" 0 (12)) := rfl
theorem e_X2_entry_10 : lk t_X2_entry 10 = some (.iadd, 11, 0, [], .returned) := rfl
theorem e_X2_entry_11 : lk t_X2_entry 11 = some (.iconst 1, 12, 0, [], .constant "" 0 (1)) := rfl
theorem e_X2_entry_12 : lk t_X2_entry 12 = some (.isub, 13, 0, [], .returned) := rfl
theorem e_X2_entry_13 : lk t_X2_entry 13 = some (.iload_n 1, 14, 1, [], .returned) := rfl
theorem e_X2_entry_14 : lk t_X2_entry 14 = some (.isub, 15, 0, [], .returned) := rfl
theorem e_X2_entry_15 : lk t_X2_entry 15 = some (.bipush 12, 17, 0, [], .constant "" 0 (12)) := rfl
theorem e_X2_entry_17 : lk t_X2_entry 17 = some (.irem, 18, 0, [], .returned) := rfl
theorem e_X2_entry_18 : lk t_X2_entry 18 = some (.aaload, 19, 0, [], .returned) := rfl
theorem e_X2_entry_19 : lk t_X2_entry 19 = some (.areturn, 20, 0, [], .returned) := rfl
abbrev q_X2_note : MI := (yX2_note, cX2_note, 7, none)
def t_X2_note : Tab := [(0, [], (.aload_n 0, 1, 0, [], .returned)),
  (1, [310], (.getfield 13, 4, 2, [0, 2], .returned)),
  (4, [], (.aload_n 0, 5, 0, [], .returned)),
  (5, [312], (.getfield 20, 8, 2, [2, 0], .returned)),
  (8, [], (.aaload, 9, 0, [], .returned)),
  (9, [], (.astore 5, 11, 5, [], .returned)),
  (11, [], (.aload 5, 13, 5, [], .returned)),
  (13, [], (.iconst 0, 14, 0, [], .constant "" 0 (0))),
  (14, [], (.iload_n 1, 15, 1, [], .returned)),
  (15, [], (.iastore, 16, 0, [], .returned)),
  (16, [], (.aload 5, 18, 5, [], .returned)),
  (18, [], (.iconst 1, 19, 0, [], .constant "" 0 (1))),
  (19, [], (.iload_n 2, 20, 2, [], .returned)),
  (20, [], (.iastore, 21, 0, [], .returned)),
  (21, [], (.aload 5, 23, 5, [], .returned)),
  (23, [], (.iconst 2, 24, 0, [], .constant "" 0 (2))),
  (24, [], (.aload 4, 26, 4, [], .returned)),
  (26, [193], (.getfield 23, 29, 1, [3, 0], .returned)),
  (29, [], (.iastore, 30, 0, [], .returned)),
  (30, [], (.aload 5, 32, 5, [], .returned)),
  (32, [], (.iconst 3, 33, 0, [], .constant "" 0 (3))),
  (33, [], (.aload 4, 35, 4, [], .returned)),
  (35, [195], (.getfield 28, 38, 1, [4, 0], .returned)),
  (38, [], (.iastore, 39, 0, [], .returned)),
  (39, [], (.aload 5, 41, 5, [], .returned)),
  (41, [], (.iconst 4, 42, 0, [], .constant "" 0 (4))),
  (42, [], (.iload_n 3, 43, 3, [], .returned)),
  (43, [], (.iastore, 44, 0, [], .returned)),
  (44, [], (.iconst 0, 45, 0, [], .constant "" 0 (0))),
  (45, [], (.istore 6, 47, 6, [], .returned)),
  (47, [], (.iload 6, 49, 6, [], .returned)),
  (49, [], (.bipush 6, 51, 0, [], .constant "" 0 (6))),
  (51, [], (.if_icmp .ge 40, 54, 91, [], .returned)),
  (54, [], (.aload 5, 56, 5, [], .returned)),
  (56, [], (.iconst 5, 57, 0, [], .constant "" 0 (5))),
  (57, [], (.iload 6, 59, 6, [], .returned)),
  (59, [], (.iadd, 60, 0, [], .returned)),
  (60, [], (.aload 4, 62, 4, [], .returned)),
  (62, [187], (.getfield 31, 65, 1, [1, 2], .returned)),
  (65, [], (.iload 6, 67, 6, [], .returned)),
  (67, [], (.iaload, 68, 0, [], .returned)),
  (68, [], (.iastore, 69, 0, [], .returned)),
  (69, [], (.aload 5, 71, 5, [], .returned)),
  (71, [], (.bipush 11, 73, 0, [], .constant "" 0 (11))),
  (73, [], (.iload 6, 75, 6, [], .returned)),
  (75, [], (.iadd, 76, 0, [], .returned)),
  (76, [], (.aload 4, 78, 4, [], .returned)),
  (78, [190], (.getfield 35, 81, 1, [2, 2], .returned)),
  (81, [], (.iload 6, 83, 6, [], .returned)),
  (83, [], (.iaload, 84, 0, [], .returned)),
  (84, [], (.iastore, 85, 0, [], .returned)),
  (85, [], (.iinc 6 1, 88, 6, [], .constant "" 0 (1))),
  (88, [], (.goto (-41), 91, 47, [], .returned)),
  (91, [], (.aload_n 0, 92, 0, [], .returned)),
  (92, [], (.aload_n 0, 93, 0, [], .returned)),
  (93, [312], (.getfield 20, 96, 2, [2, 0], .returned)),
  (96, [], (.iconst 1, 97, 0, [], .constant "" 0 (1))),
  (97, [], (.iadd, 98, 0, [], .returned)),
  (98, [], (.bipush 12, 100, 0, [], .constant "" 0 (12))),
  (100, [], (.irem, 101, 0, [], .returned)),
  (101, [312], (.putfield 20, 104, 2, [2, 0], .returned)),
  (104, [], (.aload_n 0, 105, 0, [], .returned)),
  (105, [], (.aload_n 0, 106, 0, [], .returned)),
  (106, [311], (.getfield 16, 109, 2, [1, 0], .returned)),
  (109, [], (.iconst 1, 110, 0, [], .constant "" 0 (1))),
  (110, [], (.iadd, 111, 0, [], .returned)),
  (111, [], (.bipush 12, 113, 0, [], .constant "" 0 (12))),
  (113, [927, 496, 495, 103], (.invokestatic 38, 116, 1, [], .returned)),
  (116, [311], (.putfield 16, 119, 2, [1, 0], .returned)),
  (119, [], (.return_, 120, 0, [], .returned))]
theorem ck_X2_note : okT q_X2_note t_X2_note = true := by decide +kernel
theorem e_X2_note_0 : lk t_X2_note 0 = some (.aload_n 0, 1, 0, [], .returned) := rfl
theorem e_X2_note_1 : lk t_X2_note 1 = some (.getfield 13, 4, 2, [0, 2], .returned) := rfl
theorem e_X2_note_4 : lk t_X2_note 4 = some (.aload_n 0, 5, 0, [], .returned) := rfl
theorem e_X2_note_5 : lk t_X2_note 5 = some (.getfield 20, 8, 2, [2, 0], .returned) := rfl
theorem e_X2_note_8 : lk t_X2_note 8 = some (.aaload, 9, 0, [], .returned) := rfl
theorem e_X2_note_9 : lk t_X2_note 9 = some (.astore 5, 11, 5, [], .returned) := rfl
theorem e_X2_note_11 : lk t_X2_note 11 = some (.aload 5, 13, 5, [], .returned) := rfl
theorem e_X2_note_13 : lk t_X2_note 13 = some (.iconst 0, 14, 0, [], .constant "" 0 (0)) := rfl
theorem e_X2_note_14 : lk t_X2_note 14 = some (.iload_n 1, 15, 1, [], .returned) := rfl
theorem e_X2_note_15 : lk t_X2_note 15 = some (.iastore, 16, 0, [], .returned) := rfl
theorem e_X2_note_16 : lk t_X2_note 16 = some (.aload 5, 18, 5, [], .returned) := rfl
theorem e_X2_note_18 : lk t_X2_note 18 = some (.iconst 1, 19, 0, [], .constant "" 0 (1)) := rfl
theorem e_X2_note_19 : lk t_X2_note 19 = some (.iload_n 2, 20, 2, [], .returned) := rfl
theorem e_X2_note_20 : lk t_X2_note 20 = some (.iastore, 21, 0, [], .returned) := rfl
theorem e_X2_note_21 : lk t_X2_note 21 = some (.aload 5, 23, 5, [], .returned) := rfl
theorem e_X2_note_23 : lk t_X2_note 23 = some (.iconst 2, 24, 0, [], .constant "" 0 (2)) := rfl
theorem e_X2_note_24 : lk t_X2_note 24 = some (.aload 4, 26, 4, [], .returned) := rfl
theorem e_X2_note_26 : lk t_X2_note 26 = some (.getfield 23, 29, 1, [3, 0], .returned) := rfl
theorem e_X2_note_29 : lk t_X2_note 29 = some (.iastore, 30, 0, [], .returned) := rfl
theorem e_X2_note_30 : lk t_X2_note 30 = some (.aload 5, 32, 5, [], .returned) := rfl
theorem e_X2_note_32 : lk t_X2_note 32 = some (.iconst 3, 33, 0, [], .constant "" 0 (3)) := rfl
theorem e_X2_note_33 : lk t_X2_note 33 = some (.aload 4, 35, 4, [], .returned) := rfl
theorem e_X2_note_35 : lk t_X2_note 35 = some (.getfield 28, 38, 1, [4, 0], .returned) := rfl
theorem e_X2_note_38 : lk t_X2_note 38 = some (.iastore, 39, 0, [], .returned) := rfl
theorem e_X2_note_39 : lk t_X2_note 39 = some (.aload 5, 41, 5, [], .returned) := rfl
theorem e_X2_note_41 : lk t_X2_note 41 = some (.iconst 4, 42, 0, [], .constant "" 0 (4)) := rfl
theorem e_X2_note_42 : lk t_X2_note 42 = some (.iload_n 3, 43, 3, [], .returned) := rfl
theorem e_X2_note_43 : lk t_X2_note 43 = some (.iastore, 44, 0, [], .returned) := rfl
theorem e_X2_note_44 : lk t_X2_note 44 = some (.iconst 0, 45, 0, [], .constant "" 0 (0)) := rfl
theorem e_X2_note_45 : lk t_X2_note 45 = some (.istore 6, 47, 6, [], .returned) := rfl
theorem e_X2_note_47 : lk t_X2_note 47 = some (.iload 6, 49, 6, [], .returned) := rfl
theorem e_X2_note_49 : lk t_X2_note 49 = some (.bipush 6, 51, 0, [], .constant "" 0 (6)) := rfl
theorem e_X2_note_51 : lk t_X2_note 51 = some (.if_icmp .ge 40, 54, 91, [], .returned) := rfl
theorem e_X2_note_54 : lk t_X2_note 54 = some (.aload 5, 56, 5, [], .returned) := rfl
theorem e_X2_note_56 : lk t_X2_note 56 = some (.iconst 5, 57, 0, [], .constant "" 0 (5)) := rfl
theorem e_X2_note_57 : lk t_X2_note 57 = some (.iload 6, 59, 6, [], .returned) := rfl
theorem e_X2_note_59 : lk t_X2_note 59 = some (.iadd, 60, 0, [], .returned) := rfl
theorem e_X2_note_60 : lk t_X2_note 60 = some (.aload 4, 62, 4, [], .returned) := rfl
theorem e_X2_note_62 : lk t_X2_note 62 = some (.getfield 31, 65, 1, [1, 2], .returned) := rfl
theorem e_X2_note_65 : lk t_X2_note 65 = some (.iload 6, 67, 6, [], .returned) := rfl
theorem e_X2_note_67 : lk t_X2_note 67 = some (.iaload, 68, 0, [], .returned) := rfl
theorem e_X2_note_68 : lk t_X2_note 68 = some (.iastore, 69, 0, [], .returned) := rfl
theorem e_X2_note_69 : lk t_X2_note 69 = some (.aload 5, 71, 5, [], .returned) := rfl
theorem e_X2_note_71 : lk t_X2_note 71 = some (.bipush 11, 73, 0, [], .constant "" 0 (11)) := rfl
theorem e_X2_note_73 : lk t_X2_note 73 = some (.iload 6, 75, 6, [], .returned) := rfl
theorem e_X2_note_75 : lk t_X2_note 75 = some (.iadd, 76, 0, [], .returned) := rfl
theorem e_X2_note_76 : lk t_X2_note 76 = some (.aload 4, 78, 4, [], .returned) := rfl
theorem e_X2_note_78 : lk t_X2_note 78 = some (.getfield 35, 81, 1, [2, 2], .returned) := rfl
theorem e_X2_note_81 : lk t_X2_note 81 = some (.iload 6, 83, 6, [], .returned) := rfl
theorem e_X2_note_83 : lk t_X2_note 83 = some (.iaload, 84, 0, [], .returned) := rfl
theorem e_X2_note_84 : lk t_X2_note 84 = some (.iastore, 85, 0, [], .returned) := rfl
theorem e_X2_note_85 : lk t_X2_note 85 = some (.iinc 6 1, 88, 6, [], .constant "" 0 (1)) := rfl
theorem e_X2_note_88 : lk t_X2_note 88 = some (.goto (-41), 91, 47, [], .returned) := rfl
theorem e_X2_note_91 : lk t_X2_note 91 = some (.aload_n 0, 92, 0, [], .returned) := rfl
theorem e_X2_note_92 : lk t_X2_note 92 = some (.aload_n 0, 93, 0, [], .returned) := rfl
theorem e_X2_note_93 : lk t_X2_note 93 = some (.getfield 20, 96, 2, [2, 0], .returned) := rfl
theorem e_X2_note_96 : lk t_X2_note 96 = some (.iconst 1, 97, 0, [], .constant "" 0 (1)) := rfl
theorem e_X2_note_97 : lk t_X2_note 97 = some (.iadd, 98, 0, [], .returned) := rfl
theorem e_X2_note_98 : lk t_X2_note 98 = some (.bipush 12, 100, 0, [], .constant "" 0 (12)) := rfl
theorem e_X2_note_100 : lk t_X2_note 100 = some (.irem, 101, 0, [], .returned) := rfl
theorem e_X2_note_101 : lk t_X2_note 101 = some (.putfield 20, 104, 2, [2, 0], .returned) := rfl
theorem e_X2_note_104 : lk t_X2_note 104 = some (.aload_n 0, 105, 0, [], .returned) := rfl
theorem e_X2_note_105 : lk t_X2_note 105 = some (.aload_n 0, 106, 0, [], .returned) := rfl
theorem e_X2_note_106 : lk t_X2_note 106 = some (.getfield 16, 109, 2, [1, 0], .returned) := rfl
theorem e_X2_note_109 : lk t_X2_note 109 = some (.iconst 1, 110, 0, [], .constant "" 0 (1)) := rfl
theorem e_X2_note_110 : lk t_X2_note 110 = some (.iadd, 111, 0, [], .returned) := rfl
theorem e_X2_note_111 : lk t_X2_note 111 = some (.bipush 12, 113, 0, [], .constant "" 0 (12)) := rfl
theorem e_X2_note_113 : lk t_X2_note 113 = some (.invokestatic 38, 116, 1, [], .returned) := rfl
theorem e_X2_note_116 : lk t_X2_note 116 = some (.putfield 16, 119, 2, [1, 0], .returned) := rfl
theorem e_X2_note_119 : lk t_X2_note 119 = some (.return_, 120, 0, [], .returned) := rfl
