abbrev q_X10_init : MI := (yX10_init, cX10_init, 1, none)
def t_X10_init : Tab := [(0, [], (.aload_n 0, 1, 0, [], .returned)),
  (1, [1048, 120, 119], (.invokespecial 3, 4, 1, [], .returned)),
  (4, [], (.aload_n 0, 5, 0, [], .returned)),
  (5, [], (.iconst (-1), 6, 0, [], .constant "" 0 (-1))),
  (6, [1051], (.putfield 9, 9, 10, [2, 0], .returned)),
  (9, [], (.aload_n 0, 10, 0, [], .returned)),
  (10, [], (.sipush 500, 13, 0, [], .constant "" 0 (500))),
  (13, [136], (.newarray .byte, 15, 1, [], .returned)),
  (15, [1052], (.putfield 13, 18, 10, [3, 2], .returned)),
  (18, [], (.aload_n 0, 19, 0, [], .returned)),
  (19, [], (.bipush 100, 21, 0, [], .constant "" 0 (100))),
  (21, [178], (.newarray .int, 23, 0, [], .returned)),
  (23, [1061], (.putfield 17, 26, 10, [12, 2], .returned)),
  (26, [], (.aload_n 0, 27, 0, [], .returned)),
  (27, [], (.bipush 100, 29, 0, [], .constant "" 0 (100))),
  (29, [178], (.newarray .int, 31, 0, [], .returned)),
  (31, [1062], (.putfield 21, 34, 10, [13, 2], .returned)),
  (34, [], (.aload_n 0, 35, 0, [], .returned)),
  (35, [], (.bipush 12, 37, 0, [], .constant "" 0 (12))),
  (37, [177], (.newarray .long, 39, 3, [], .returned)),
  (39, [1063], (.putfield 24, 42, 10, [14, 2], .returned)),
  (42, [], (.aload_n 0, 43, 0, [], .returned)),
  (43, [], (.bipush 12, 45, 0, [], .constant "" 0 (12))),
  (45, [178], (.newarray .int, 47, 0, [], .returned)),
  (47, [1066], (.putfield 28, 50, 10, [17, 2], .returned)),
  (50, [], (.aload_n 0, 51, 0, [], .returned)),
  (51, [], (.bipush 12, 53, 0, [], .constant "" 0 (12))),
  (53, [178], (.newarray .int, 55, 0, [], .returned)),
  (55, [1067], (.putfield 31, 58, 10, [18, 2], .returned)),
  (58, [], (.aload_n 0, 59, 0, [], .returned)),
  (59, [], (.bipush 6, 61, 0, [], .constant "" 0 (6))),
  (61, [178], (.newarray .int, 63, 0, [], .returned)),
  (63, [1068], (.putfield 34, 66, 10, [19, 2], .returned)),
  (66, [], (.aload_n 0, 67, 0, [], .returned)),
  (67, [], (.iconst 3, 68, 0, [], .constant "" 0 (3))),
  (68, [178], (.newarray .int, 70, 0, [], .returned)),
  (70, [1069], (.putfield 37, 73, 10, [20, 2], .returned)),
  (73, [], (.aload_n 0, 74, 0, [], .returned)),
  (74, [], (.iconst 3, 75, 0, [], .constant "" 0 (3))),
  (75, [178], (.newarray .int, 77, 0, [], .returned)),
  (77, [1070], (.putfield 40, 80, 10, [21, 2], .returned)),
  (80, [], (.aload_n 0, 81, 0, [], .returned)),
  (81, [], (.iconst 3, 82, 0, [], .constant "" 0 (3))),
  (82, [178], (.newarray .int, 84, 0, [], .returned)),
  (84, [1071], (.putfield 43, 87, 10, [22, 2], .returned)),
  (87, [], (.aload_n 0, 88, 0, [], .returned)),
  (88, [], (.bipush 6, 90, 0, [], .constant "" 0 (6))),
  (90, [223], (.newarray .boolean, 92, 2, [], .returned)),
  (92, [1072], (.putfield 46, 95, 10, [23, 2], .returned)),
  (95, [], (.aload_n 0, 96, 0, [], .returned)),
  (96, [], (.bipush 6, 98, 0, [], .constant "" 0 (6))),
  (98, [178], (.newarray .int, 100, 0, [], .returned)),
  (100, [1074], (.putfield 50, 103, 10, [25, 2], .returned)),
  (103, [], (.aload_n 0, 104, 0, [], .returned)),
  (104, [], (.bipush 6, 106, 0, [], .constant "" 0 (6))),
  (106, [178], (.newarray .int, 108, 0, [], .returned)),
  (108, [1075], (.putfield 53, 111, 10, [26, 2], .returned)),
  (111, [], (.aload_n 0, 112, 0, [], .returned)),
  (112, [], (.bipush 60, 114, 0, [], .constant "" 0 (60))),
  (114, [178], (.newarray .int, 116, 0, [], .returned)),
  (116, [1077], (.putfield 56, 119, 10, [28, 2], .returned)),
  (119, [], (.aload_n 0, 120, 0, [], .returned)),
  (120, [], (.bipush 72, 122, 0, [], .constant "" 0 (72))),
  (122, [178], (.newarray .int, 124, 0, [], .returned)),
  (124, [1078], (.putfield 59, 127, 10, [29, 2], .returned)),
  (127, [], (.aload_n 0, 128, 0, [], .returned)),
  (128, [], (.bipush 72, 130, 0, [], .constant "" 0 (72))),
  (130, [178], (.newarray .int, 132, 0, [], .returned)),
  (132, [1079], (.putfield 62, 135, 10, [30, 2], .returned)),
  (135, [], (.return_, 136, 0, [], .returned))]
theorem ck_X10_init : okT q_X10_init t_X10_init = true := by decide +kernel
theorem e_X10_init_0 : lk t_X10_init 0 = some (.aload_n 0, 1, 0, [], .returned) := rfl
theorem e_X10_init_1 : lk t_X10_init 1 = some (.invokespecial 3, 4, 1, [], .returned) := rfl
theorem e_X10_init_4 : lk t_X10_init 4 = some (.aload_n 0, 5, 0, [], .returned) := rfl
theorem e_X10_init_5 : lk t_X10_init 5 = some (.iconst (-1), 6, 0, [], .constant "" 0 (-1)) := rfl
theorem e_X10_init_6 : lk t_X10_init 6 = some (.putfield 9, 9, 10, [2, 0], .returned) := rfl
theorem e_X10_init_9 : lk t_X10_init 9 = some (.aload_n 0, 10, 0, [], .returned) := rfl
theorem e_X10_init_10 : lk t_X10_init 10 = some (.sipush 500, 13, 0, [], .constant "" 0 (500)) := rfl
theorem e_X10_init_13 : lk t_X10_init 13 = some (.newarray .byte, 15, 1, [], .returned) := rfl
theorem e_X10_init_15 : lk t_X10_init 15 = some (.putfield 13, 18, 10, [3, 2], .returned) := rfl
theorem e_X10_init_18 : lk t_X10_init 18 = some (.aload_n 0, 19, 0, [], .returned) := rfl
theorem e_X10_init_19 : lk t_X10_init 19 = some (.bipush 100, 21, 0, [], .constant "" 0 (100)) := rfl
theorem e_X10_init_21 : lk t_X10_init 21 = some (.newarray .int, 23, 0, [], .returned) := rfl
theorem e_X10_init_23 : lk t_X10_init 23 = some (.putfield 17, 26, 10, [12, 2], .returned) := rfl
theorem e_X10_init_26 : lk t_X10_init 26 = some (.aload_n 0, 27, 0, [], .returned) := rfl
theorem e_X10_init_27 : lk t_X10_init 27 = some (.bipush 100, 29, 0, [], .constant "" 0 (100)) := rfl
theorem e_X10_init_29 : lk t_X10_init 29 = some (.newarray .int, 31, 0, [], .returned) := rfl
theorem e_X10_init_31 : lk t_X10_init 31 = some (.putfield 21, 34, 10, [13, 2], .returned) := rfl
theorem e_X10_init_34 : lk t_X10_init 34 = some (.aload_n 0, 35, 0, [], .returned) := rfl
theorem e_X10_init_35 : lk t_X10_init 35 = some (.bipush 12, 37, 0, [], .constant "" 0 (12)) := rfl
theorem e_X10_init_37 : lk t_X10_init 37 = some (.newarray .long, 39, 3, [], .returned) := rfl
theorem e_X10_init_39 : lk t_X10_init 39 = some (.putfield 24, 42, 10, [14, 2], .returned) := rfl
theorem e_X10_init_42 : lk t_X10_init 42 = some (.aload_n 0, 43, 0, [], .returned) := rfl
theorem e_X10_init_43 : lk t_X10_init 43 = some (.bipush 12, 45, 0, [], .constant "" 0 (12)) := rfl
theorem e_X10_init_45 : lk t_X10_init 45 = some (.newarray .int, 47, 0, [], .returned) := rfl
theorem e_X10_init_47 : lk t_X10_init 47 = some (.putfield 28, 50, 10, [17, 2], .returned) := rfl
theorem e_X10_init_50 : lk t_X10_init 50 = some (.aload_n 0, 51, 0, [], .returned) := rfl
theorem e_X10_init_51 : lk t_X10_init 51 = some (.bipush 12, 53, 0, [], .constant "" 0 (12)) := rfl
theorem e_X10_init_53 : lk t_X10_init 53 = some (.newarray .int, 55, 0, [], .returned) := rfl
theorem e_X10_init_55 : lk t_X10_init 55 = some (.putfield 31, 58, 10, [18, 2], .returned) := rfl
theorem e_X10_init_58 : lk t_X10_init 58 = some (.aload_n 0, 59, 0, [], .returned) := rfl
theorem e_X10_init_59 : lk t_X10_init 59 = some (.bipush 6, 61, 0, [], .constant "" 0 (6)) := rfl
theorem e_X10_init_61 : lk t_X10_init 61 = some (.newarray .int, 63, 0, [], .returned) := rfl
theorem e_X10_init_63 : lk t_X10_init 63 = some (.putfield 34, 66, 10, [19, 2], .returned) := rfl
theorem e_X10_init_66 : lk t_X10_init 66 = some (.aload_n 0, 67, 0, [], .returned) := rfl
theorem e_X10_init_67 : lk t_X10_init 67 = some (.iconst 3, 68, 0, [], .constant "" 0 (3)) := rfl
theorem e_X10_init_68 : lk t_X10_init 68 = some (.newarray .int, 70, 0, [], .returned) := rfl
theorem e_X10_init_70 : lk t_X10_init 70 = some (.putfield 37, 73, 10, [20, 2], .returned) := rfl
theorem e_X10_init_73 : lk t_X10_init 73 = some (.aload_n 0, 74, 0, [], .returned) := rfl
theorem e_X10_init_74 : lk t_X10_init 74 = some (.iconst 3, 75, 0, [], .constant "" 0 (3)) := rfl
theorem e_X10_init_75 : lk t_X10_init 75 = some (.newarray .int, 77, 0, [], .returned) := rfl
theorem e_X10_init_77 : lk t_X10_init 77 = some (.putfield 40, 80, 10, [21, 2], .returned) := rfl
theorem e_X10_init_80 : lk t_X10_init 80 = some (.aload_n 0, 81, 0, [], .returned) := rfl
theorem e_X10_init_81 : lk t_X10_init 81 = some (.iconst 3, 82, 0, [], .constant "" 0 (3)) := rfl
theorem e_X10_init_82 : lk t_X10_init 82 = some (.newarray .int, 84, 0, [], .returned) := rfl
theorem e_X10_init_84 : lk t_X10_init 84 = some (.putfield 43, 87, 10, [22, 2], .returned) := rfl
theorem e_X10_init_87 : lk t_X10_init 87 = some (.aload_n 0, 88, 0, [], .returned) := rfl
theorem e_X10_init_88 : lk t_X10_init 88 = some (.bipush 6, 90, 0, [], .constant "" 0 (6)) := rfl
theorem e_X10_init_90 : lk t_X10_init 90 = some (.newarray .boolean, 92, 2, [], .returned) := rfl
theorem e_X10_init_92 : lk t_X10_init 92 = some (.putfield 46, 95, 10, [23, 2], .returned) := rfl
theorem e_X10_init_95 : lk t_X10_init 95 = some (.aload_n 0, 96, 0, [], .returned) := rfl
theorem e_X10_init_96 : lk t_X10_init 96 = some (.bipush 6, 98, 0, [], .constant "" 0 (6)) := rfl
theorem e_X10_init_98 : lk t_X10_init 98 = some (.newarray .int, 100, 0, [], .returned) := rfl
theorem e_X10_init_100 : lk t_X10_init 100 = some (.putfield 50, 103, 10, [25, 2], .returned) := rfl
theorem e_X10_init_103 : lk t_X10_init 103 = some (.aload_n 0, 104, 0, [], .returned) := rfl
theorem e_X10_init_104 : lk t_X10_init 104 = some (.bipush 6, 106, 0, [], .constant "" 0 (6)) := rfl
theorem e_X10_init_106 : lk t_X10_init 106 = some (.newarray .int, 108, 0, [], .returned) := rfl
theorem e_X10_init_108 : lk t_X10_init 108 = some (.putfield 53, 111, 10, [26, 2], .returned) := rfl
theorem e_X10_init_111 : lk t_X10_init 111 = some (.aload_n 0, 112, 0, [], .returned) := rfl
theorem e_X10_init_112 : lk t_X10_init 112 = some (.bipush 60, 114, 0, [], .constant "" 0 (60)) := rfl
theorem e_X10_init_114 : lk t_X10_init 114 = some (.newarray .int, 116, 0, [], .returned) := rfl
theorem e_X10_init_116 : lk t_X10_init 116 = some (.putfield 56, 119, 10, [28, 2], .returned) := rfl
theorem e_X10_init_119 : lk t_X10_init 119 = some (.aload_n 0, 120, 0, [], .returned) := rfl
theorem e_X10_init_120 : lk t_X10_init 120 = some (.bipush 72, 122, 0, [], .constant "" 0 (72)) := rfl
theorem e_X10_init_122 : lk t_X10_init 122 = some (.newarray .int, 124, 0, [], .returned) := rfl
theorem e_X10_init_124 : lk t_X10_init 124 = some (.putfield 59, 127, 10, [29, 2], .returned) := rfl
theorem e_X10_init_127 : lk t_X10_init 127 = some (.aload_n 0, 128, 0, [], .returned) := rfl
theorem e_X10_init_128 : lk t_X10_init 128 = some (.bipush 72, 130, 0, [], .constant "" 0 (72)) := rfl
theorem e_X10_init_130 : lk t_X10_init 130 = some (.newarray .int, 132, 0, [], .returned) := rfl
theorem e_X10_init_132 : lk t_X10_init 132 = some (.putfield 62, 135, 10, [30, 2], .returned) := rfl
theorem e_X10_init_135 : lk t_X10_init 135 = some (.return_, 136, 0, [], .returned) := rfl
abbrev q_X10_thrown : MI := (yX10_thrown, cX10_thrown, 1, (some .int))
def t_X10_thrown : Tab := [(0, [], (.aload_n 0, 1, 0, [], .returned)),
  (1, [1049], (.getfield 65, 4, 10, [0, 0], .returned)),
  (4, [], (.ireturn, 5, 0, [], .returned))]
theorem ck_X10_thrown : okT q_X10_thrown t_X10_thrown = true := by decide +kernel
theorem e_X10_thrown_0 : lk t_X10_thrown 0 = some (.aload_n 0, 1, 0, [], .returned) := rfl
theorem e_X10_thrown_1 : lk t_X10_thrown 1 = some (.getfield 65, 4, 10, [0, 0], .returned) := rfl
theorem e_X10_thrown_4 : lk t_X10_thrown 4 = some (.ireturn, 5, 0, [], .returned) := rfl
abbrev q_X10_refused : MI := (yX10_refused, cX10_refused, 2, (some .int))
def t_X10_refused : Tab := [(0, [], (.aload_n 0, 1, 0, [], .returned)),
  (1, [], (.iload_n 1, 2, 1, [], .returned)),
  (2, [1050], (.putfield 68, 5, 10, [1, 0], .returned)),
  (5, [], (.aload_n 0, 6, 0, [], .returned)),
  (6, [], (.iconst (-1), 7, 0, [], .constant "" 0 (-1))),
  (7, [1051], (.putfield 9, 10, 10, [2, 0], .returned)),
  (10, [], (.iconst (-1), 11, 0, [], .constant "" 0 (-1))),
  (11, [], (.ireturn, 12, 0, [], .returned))]
theorem ck_X10_refused : okT q_X10_refused t_X10_refused = true := by decide +kernel
theorem e_X10_refused_0 : lk t_X10_refused 0 = some (.aload_n 0, 1, 0, [], .returned) := rfl
theorem e_X10_refused_1 : lk t_X10_refused 1 = some (.iload_n 1, 2, 1, [], .returned) := rfl
theorem e_X10_refused_2 : lk t_X10_refused 2 = some (.putfield 68, 5, 10, [1, 0], .returned) := rfl
theorem e_X10_refused_5 : lk t_X10_refused 5 = some (.aload_n 0, 6, 0, [], .returned) := rfl
theorem e_X10_refused_6 : lk t_X10_refused 6 = some (.iconst (-1), 7, 0, [], .constant "" 0 (-1)) := rfl
theorem e_X10_refused_7 : lk t_X10_refused 7 = some (.putfield 9, 10, 10, [2, 0], .returned) := rfl
theorem e_X10_refused_10 : lk t_X10_refused 10 = some (.iconst (-1), 11, 0, [], .constant "" 0 (-1)) := rfl
theorem e_X10_refused_11 : lk t_X10_refused 11 = some (.ireturn, 12, 0, [], .returned) := rfl
abbrev q_X10_good : MI := (yX10_good, cX10_good, 2, (some .int))
def t_X10_good : Tab := [(0, [], (.aload_n 0, 1, 0, [], .returned)),
  (1, [], (.iconst 0, 2, 0, [], .constant "" 0 (0))),
  (2, [1050], (.putfield 68, 5, 10, [1, 0], .returned)),
  (5, [], (.aload_n 0, 6, 0, [], .returned)),
  (6, [], (.iconst (-1), 7, 0, [], .constant "" 0 (-1))),
  (7, [1051], (.putfield 9, 10, 10, [2, 0], .returned)),
  (10, [], (.iload_n 1, 11, 1, [], .returned)),
  (11, [], (.ireturn, 12, 0, [], .returned))]
theorem ck_X10_good : okT q_X10_good t_X10_good = true := by decide +kernel
theorem e_X10_good_0 : lk t_X10_good 0 = some (.aload_n 0, 1, 0, [], .returned) := rfl
theorem e_X10_good_1 : lk t_X10_good 1 = some (.iconst 0, 2, 0, [], .constant "" 0 (0)) := rfl
theorem e_X10_good_2 : lk t_X10_good 2 = some (.putfield 68, 5, 10, [1, 0], .returned) := rfl
theorem e_X10_good_5 : lk t_X10_good 5 = some (.aload_n 0, 6, 0, [], .returned) := rfl
theorem e_X10_good_6 : lk t_X10_good 6 = some (.iconst (-1), 7, 0, [], .constant "" 0 (-1)) := rfl
theorem e_X10_good_7 : lk t_X10_good 7 = some (.putfield 9, 10, 10, [2, 0], .returned) := rfl
theorem e_X10_good_10 : lk t_X10_good 10 = some (.iload_n 1, 11, 1, [], .returned) := rfl
theorem e_X10_good_11 : lk t_X10_good 11 = some (.ireturn, 12, 0, [], .returned) := rfl
abbrev q_X10_in : MI := (yX10_in, cX10_in, 3, (some .boolean))
def t_X10_in : Tab := [(0, [], (.iload_n 0, 1, 0, [], .returned)),
  (1, [], (.iload_n 1, 2, 1, [], .returned)),
  (2, [], (.if_icmp .lt 12, 5, 14, [], .returned)),
  (5, [], (.iload_n 0, 6, 0, [], .returned)),
  (6, [], (.iload_n 2, 7, 2, [], .returned)),
  (7, [], (.if_icmp .gt 7, 10, 14, [], .returned)),
  (10, [], (.iconst 1, 11, 0, [], .constant "" 0 (1))),
  (11, [], (.goto 4, 14, 15, [], .returned)),
  (14, [], (.iconst 0, 15, 0, [], .constant "" 0 (0))),
  (15, [], (.ireturn, 16, 1, [], .returned))]
theorem ck_X10_in : okT q_X10_in t_X10_in = true := by decide +kernel
theorem e_X10_in_0 : lk t_X10_in 0 = some (.iload_n 0, 1, 0, [], .returned) := rfl
theorem e_X10_in_1 : lk t_X10_in 1 = some (.iload_n 1, 2, 1, [], .returned) := rfl
theorem e_X10_in_2 : lk t_X10_in 2 = some (.if_icmp .lt 12, 5, 14, [], .returned) := rfl
theorem e_X10_in_5 : lk t_X10_in 5 = some (.iload_n 0, 6, 0, [], .returned) := rfl
theorem e_X10_in_6 : lk t_X10_in 6 = some (.iload_n 2, 7, 2, [], .returned) := rfl
theorem e_X10_in_7 : lk t_X10_in 7 = some (.if_icmp .gt 7, 10, 14, [], .returned) := rfl
theorem e_X10_in_10 : lk t_X10_in 10 = some (.iconst 1, 11, 0, [], .constant "" 0 (1)) := rfl
theorem e_X10_in_11 : lk t_X10_in 11 = some (.goto 4, 14, 15, [], .returned) := rfl
theorem e_X10_in_14 : lk t_X10_in 14 = some (.iconst 0, 15, 0, [], .constant "" 0 (0)) := rfl
theorem e_X10_in_15 : lk t_X10_in 15 = some (.ireturn, 16, 1, [], .returned) := rfl
abbrev q_X10_lesser : MI := (yX10_lesser, cX10_lesser, 2, (some .int))
def t_X10_lesser : Tab := [(0, [], (.iload_n 0, 1, 0, [], .returned)),
  (1, [], (.iload_n 1, 2, 1, [], .returned)),
  (2, [], (.if_icmp .ge 7, 5, 9, [], .returned)),
  (5, [], (.iload_n 0, 6, 0, [], .returned)),
  (6, [], (.goto 4, 9, 10, [], .returned)),
  (9, [], (.iload_n 1, 10, 1, [], .returned)),
  (10, [], (.ireturn, 11, 0, [], .returned))]
theorem ck_X10_lesser : okT q_X10_lesser t_X10_lesser = true := by decide +kernel
theorem e_X10_lesser_0 : lk t_X10_lesser 0 = some (.iload_n 0, 1, 0, [], .returned) := rfl
theorem e_X10_lesser_1 : lk t_X10_lesser 1 = some (.iload_n 1, 2, 1, [], .returned) := rfl
theorem e_X10_lesser_2 : lk t_X10_lesser 2 = some (.if_icmp .ge 7, 5, 9, [], .returned) := rfl
theorem e_X10_lesser_5 : lk t_X10_lesser 5 = some (.iload_n 0, 6, 0, [], .returned) := rfl
theorem e_X10_lesser_6 : lk t_X10_lesser 6 = some (.goto 4, 9, 10, [], .returned) := rfl
theorem e_X10_lesser_9 : lk t_X10_lesser 9 = some (.iload_n 1, 10, 1, [], .returned) := rfl
theorem e_X10_lesser_10 : lk t_X10_lesser 10 = some (.ireturn, 11, 0, [], .returned) := rfl
abbrev q_X10_greater : MI := (yX10_greater, cX10_greater, 2, (some .int))
def t_X10_greater : Tab := [(0, [], (.iload_n 0, 1, 0, [], .returned)),
  (1, [], (.iload_n 1, 2, 1, [], .returned)),
  (2, [], (.if_icmp .le 7, 5, 9, [], .returned)),
  (5, [], (.iload_n 0, 6, 0, [], .returned)),
  (6, [], (.goto 4, 9, 10, [], .returned)),
  (9, [], (.iload_n 1, 10, 1, [], .returned)),
  (10, [], (.ireturn, 11, 0, [], .returned))]
theorem ck_X10_greater : okT q_X10_greater t_X10_greater = true := by decide +kernel
theorem e_X10_greater_0 : lk t_X10_greater 0 = some (.iload_n 0, 1, 0, [], .returned) := rfl
theorem e_X10_greater_1 : lk t_X10_greater 1 = some (.iload_n 1, 2, 1, [], .returned) := rfl
theorem e_X10_greater_2 : lk t_X10_greater 2 = some (.if_icmp .le 7, 5, 9, [], .returned) := rfl
theorem e_X10_greater_5 : lk t_X10_greater 5 = some (.iload_n 0, 6, 0, [], .returned) := rfl
theorem e_X10_greater_6 : lk t_X10_greater 6 = some (.goto 4, 9, 10, [], .returned) := rfl
theorem e_X10_greater_9 : lk t_X10_greater 9 = some (.iload_n 1, 10, 1, [], .returned) := rfl
theorem e_X10_greater_10 : lk t_X10_greater 10 = some (.ireturn, 11, 0, [], .returned) := rfl
abbrev q_X10_byteAt : MI := (yX10_byteAt, cX10_byteAt, 2, (some .int))
def t_X10_byteAt : Tab := [(0, [], (.iload_n 1, 1, 1, [], .returned)),
  (1, [], (.aload_n 0, 2, 0, [], .returned)),
  (2, [1054], (.getfield 71, 5, 10, [5, 0], .returned)),
  (5, [], (.if_icmp .ge 16, 8, 21, [], .returned)),
  (8, [], (.aload_n 0, 9, 0, [], .returned)),
  (9, [1052], (.getfield 13, 12, 10, [3, 2], .returned)),
  (12, [], (.iload_n 1, 13, 1, [], .returned)),
  (13, [], (.baload, 14, 0, [], .returned)),
  (14, [], (.sipush 255, 17, 0, [], .constant "" 0 (255))),
  (17, [], (.iand, 18, 0, [], .returned)),
  (18, [], (.goto 4, 21, 22, [], .returned)),
  (21, [], (.iconst (-1), 22, 0, [], .constant "" 0 (-1))),
  (22, [], (.ireturn, 23, 0, [], .returned))]
theorem ck_X10_byteAt : okT q_X10_byteAt t_X10_byteAt = true := by decide +kernel
theorem e_X10_byteAt_0 : lk t_X10_byteAt 0 = some (.iload_n 1, 1, 1, [], .returned) := rfl
theorem e_X10_byteAt_1 : lk t_X10_byteAt 1 = some (.aload_n 0, 2, 0, [], .returned) := rfl
theorem e_X10_byteAt_2 : lk t_X10_byteAt 2 = some (.getfield 71, 5, 10, [5, 0], .returned) := rfl
theorem e_X10_byteAt_5 : lk t_X10_byteAt 5 = some (.if_icmp .ge 16, 8, 21, [], .returned) := rfl
theorem e_X10_byteAt_8 : lk t_X10_byteAt 8 = some (.aload_n 0, 9, 0, [], .returned) := rfl
theorem e_X10_byteAt_9 : lk t_X10_byteAt 9 = some (.getfield 13, 12, 10, [3, 2], .returned) := rfl
theorem e_X10_byteAt_12 : lk t_X10_byteAt 12 = some (.iload_n 1, 13, 1, [], .returned) := rfl
theorem e_X10_byteAt_13 : lk t_X10_byteAt 13 = some (.baload, 14, 0, [], .returned) := rfl
theorem e_X10_byteAt_14 : lk t_X10_byteAt 14 = some (.sipush 255, 17, 0, [], .constant "" 0 (255)) := rfl
theorem e_X10_byteAt_17 : lk t_X10_byteAt 17 = some (.iand, 18, 0, [], .returned) := rfl
theorem e_X10_byteAt_18 : lk t_X10_byteAt 18 = some (.goto 4, 21, 22, [], .returned) := rfl
theorem e_X10_byteAt_21 : lk t_X10_byteAt 21 = some (.iconst (-1), 22, 0, [], .constant "" 0 (-1)) := rfl
theorem e_X10_byteAt_22 : lk t_X10_byteAt 22 = some (.ireturn, 23, 0, [], .returned) := rfl
abbrev q_X10_goOn : MI := (yX10_goOn, cX10_goOn, 2, none)
def t_X10_goOn : Tab := [(0, [], (.aload_n 0, 1, 0, [], .returned)),
  (1, [1059], (.getfield 74, 4, 10, [10, 0], .returned)),
  (4, [], (.ifCond .le 4, 7, 8, [], .returned)),
  (7, [], (.return_, 8, 0, [], .returned)),
  (8, [], (.aload_n 0, 9, 0, [], .returned)),
  (9, [], (.aload_n 0, 10, 0, [], .returned)),
  (10, [1055], (.getfield 77, 13, 10, [6, 0], .returned)),
  (13, [1170, 1173, 1172, 38, 102], (.invokevirtual 80, 16, 0, [1, 10, 0, 0], .code yX10_byteAt cX10_byteAt 2 (some .int))),
  (16, [], (.bipush 32, 18, 0, [], .constant "" 0 (32))),
  (18, [], (.if_icmp .ne 16, 21, 34, [], .returned)),
  (21, [], (.aload_n 0, 22, 0, [], .returned)),
  (22, [], (.dup, 23, 0, [], .returned)),
  (23, [1055], (.getfield 77, 26, 10, [6, 0], .returned)),
  (26, [], (.iconst 1, 27, 0, [], .constant "" 0 (1))),
  (27, [], (.iadd, 28, 0, [], .returned)),
  (28, [1055], (.putfield 77, 31, 10, [6, 0], .returned)),
  (31, [], (.goto (-23), 34, 8, [], .returned)),
  (34, [], (.aload_n 0, 35, 0, [], .returned)),
  (35, [], (.aload_n 0, 36, 0, [], .returned)),
  (36, [1055], (.getfield 77, 39, 10, [6, 0], .returned)),
  (39, [1057], (.putfield 84, 42, 10, [8, 0], .returned)),
  (42, [], (.aload_n 0, 43, 0, [], .returned)),
  (43, [], (.aload_n 0, 44, 0, [], .returned)),
  (44, [1055], (.getfield 77, 47, 10, [6, 0], .returned)),
  (47, [1170, 1173, 1172, 38, 102], (.invokevirtual 80, 50, 0, [1, 10, 0, 0], .code yX10_byteAt cX10_byteAt 2 (some .int))),
  (50, [], (.istore_n 1, 51, 1, [], .returned)),
  (51, [], (.iload_n 1, 52, 1, [], .returned)),
  (52, [], (.iconst (-1), 53, 0, [], .constant "" 0 (-1))),
  (53, [], (.if_icmp .ne 11, 56, 64, [], .returned)),
  (56, [], (.aload_n 0, 57, 0, [], .returned)),
  (57, [], (.iconst 1, 58, 0, [], .constant "" 0 (1))),
  (58, [1056], (.putfield 87, 61, 10, [7, 0], .returned)),
  (61, [], (.goto 64, 64, 125, [], .returned)),
  (64, [], (.iload_n 1, 65, 1, [], .returned)),
  (65, [], (.bipush 97, 67, 0, [], .constant "" 0 (97))),
  (67, [], (.bipush 122, 69, 0, [], .constant "" 0 (122))),
  (69, [1174, 1176, 1175, 102], (.invokestatic 90, 72, 0, [3, 0, 0], .code yX10_in cX10_in 3 (some .boolean))),
  (72, [], (.ifCond .eq 10, 75, 82, [], .returned)),
  (75, [], (.aload_n 0, 76, 0, [], .returned)),
  (76, [1177, 1180, 1179, 39, 102], (.invokevirtual 94, 79, 0, [0, 10, 0, 0], .code yX10_goWord cX10_goWord 1 none)),
  (79, [], (.goto 46, 82, 125, [], .returned)),
  (82, [], (.iload_n 1, 83, 1, [], .returned)),
  (83, [], (.bipush 48, 85, 0, [], .constant "" 0 (48))),
  (85, [], (.bipush 57, 87, 0, [], .constant "" 0 (57))),
  (87, [1174, 1176, 1175, 102], (.invokestatic 90, 90, 0, [3, 0, 0], .code yX10_in cX10_in 3 (some .boolean))),
  (90, [], (.ifCond .eq 10, 93, 100, [], .returned)),
  (93, [], (.aload_n 0, 94, 0, [], .returned)),
  (94, [1181, 1184, 1183, 40, 102], (.invokevirtual 97, 97, 0, [0, 10, 0, 0], .code yX10_goWhole cX10_goWhole 1 none)),
  (97, [], (.goto 28, 100, 125, [], .returned)),
  (100, [], (.aload_n 0, 101, 0, [], .returned)),
  (101, [], (.iload_n 1, 102, 1, [], .returned)),
  (102, [], (.bipush 59, 104, 0, [], .constant "" 0 (59))),
  (104, [], (.if_icmp .ne 7, 107, 111, [], .returned)),
  (107, [], (.iconst 4, 108, 0, [], .constant "" 0 (4))),
  (108, [], (.goto 4, 111, 112, [], .returned)),
  (111, [], (.iconst 0, 112, 0, [], .constant "" 0 (0))),
  (112, [1056], (.putfield 87, 115, 10, [7, 0], .returned)),
  (115, [], (.aload_n 0, 116, 0, [], .returned)),
  (116, [], (.dup, 117, 0, [], .returned)),
  (117, [1055], (.getfield 77, 120, 10, [6, 0], .returned)),
  (120, [], (.iconst 1, 121, 0, [], .constant "" 0 (1))),
  (121, [], (.iadd, 122, 0, [], .returned)),
  (122, [1055], (.putfield 77, 125, 10, [6, 0], .returned)),
  (125, [], (.return_, 126, 0, [], .returned))]
theorem ck_X10_goOn : okT q_X10_goOn t_X10_goOn = true := by decide +kernel
theorem e_X10_goOn_0 : lk t_X10_goOn 0 = some (.aload_n 0, 1, 0, [], .returned) := rfl
theorem e_X10_goOn_1 : lk t_X10_goOn 1 = some (.getfield 74, 4, 10, [10, 0], .returned) := rfl
theorem e_X10_goOn_4 : lk t_X10_goOn 4 = some (.ifCond .le 4, 7, 8, [], .returned) := rfl
theorem e_X10_goOn_7 : lk t_X10_goOn 7 = some (.return_, 8, 0, [], .returned) := rfl
theorem e_X10_goOn_8 : lk t_X10_goOn 8 = some (.aload_n 0, 9, 0, [], .returned) := rfl
theorem e_X10_goOn_9 : lk t_X10_goOn 9 = some (.aload_n 0, 10, 0, [], .returned) := rfl
theorem e_X10_goOn_10 : lk t_X10_goOn 10 = some (.getfield 77, 13, 10, [6, 0], .returned) := rfl
theorem e_X10_goOn_13 : lk t_X10_goOn 13 = some (.invokevirtual 80, 16, 0, [1, 10, 0, 0], .code yX10_byteAt cX10_byteAt 2 (some .int)) := rfl
theorem e_X10_goOn_16 : lk t_X10_goOn 16 = some (.bipush 32, 18, 0, [], .constant "" 0 (32)) := rfl
theorem e_X10_goOn_18 : lk t_X10_goOn 18 = some (.if_icmp .ne 16, 21, 34, [], .returned) := rfl
theorem e_X10_goOn_21 : lk t_X10_goOn 21 = some (.aload_n 0, 22, 0, [], .returned) := rfl
theorem e_X10_goOn_22 : lk t_X10_goOn 22 = some (.dup, 23, 0, [], .returned) := rfl
theorem e_X10_goOn_23 : lk t_X10_goOn 23 = some (.getfield 77, 26, 10, [6, 0], .returned) := rfl
theorem e_X10_goOn_26 : lk t_X10_goOn 26 = some (.iconst 1, 27, 0, [], .constant "" 0 (1)) := rfl
theorem e_X10_goOn_27 : lk t_X10_goOn 27 = some (.iadd, 28, 0, [], .returned) := rfl
theorem e_X10_goOn_28 : lk t_X10_goOn 28 = some (.putfield 77, 31, 10, [6, 0], .returned) := rfl
theorem e_X10_goOn_31 : lk t_X10_goOn 31 = some (.goto (-23), 34, 8, [], .returned) := rfl
theorem e_X10_goOn_34 : lk t_X10_goOn 34 = some (.aload_n 0, 35, 0, [], .returned) := rfl
theorem e_X10_goOn_35 : lk t_X10_goOn 35 = some (.aload_n 0, 36, 0, [], .returned) := rfl
theorem e_X10_goOn_36 : lk t_X10_goOn 36 = some (.getfield 77, 39, 10, [6, 0], .returned) := rfl
theorem e_X10_goOn_39 : lk t_X10_goOn 39 = some (.putfield 84, 42, 10, [8, 0], .returned) := rfl
theorem e_X10_goOn_42 : lk t_X10_goOn 42 = some (.aload_n 0, 43, 0, [], .returned) := rfl
theorem e_X10_goOn_43 : lk t_X10_goOn 43 = some (.aload_n 0, 44, 0, [], .returned) := rfl
theorem e_X10_goOn_44 : lk t_X10_goOn 44 = some (.getfield 77, 47, 10, [6, 0], .returned) := rfl
theorem e_X10_goOn_47 : lk t_X10_goOn 47 = some (.invokevirtual 80, 50, 0, [1, 10, 0, 0], .code yX10_byteAt cX10_byteAt 2 (some .int)) := rfl
theorem e_X10_goOn_50 : lk t_X10_goOn 50 = some (.istore_n 1, 51, 1, [], .returned) := rfl
theorem e_X10_goOn_51 : lk t_X10_goOn 51 = some (.iload_n 1, 52, 1, [], .returned) := rfl
theorem e_X10_goOn_52 : lk t_X10_goOn 52 = some (.iconst (-1), 53, 0, [], .constant "" 0 (-1)) := rfl
theorem e_X10_goOn_53 : lk t_X10_goOn 53 = some (.if_icmp .ne 11, 56, 64, [], .returned) := rfl
theorem e_X10_goOn_56 : lk t_X10_goOn 56 = some (.aload_n 0, 57, 0, [], .returned) := rfl
theorem e_X10_goOn_57 : lk t_X10_goOn 57 = some (.iconst 1, 58, 0, [], .constant "" 0 (1)) := rfl
theorem e_X10_goOn_58 : lk t_X10_goOn 58 = some (.putfield 87, 61, 10, [7, 0], .returned) := rfl
theorem e_X10_goOn_61 : lk t_X10_goOn 61 = some (.goto 64, 64, 125, [], .returned) := rfl
theorem e_X10_goOn_64 : lk t_X10_goOn 64 = some (.iload_n 1, 65, 1, [], .returned) := rfl
theorem e_X10_goOn_65 : lk t_X10_goOn 65 = some (.bipush 97, 67, 0, [], .constant "" 0 (97)) := rfl
theorem e_X10_goOn_67 : lk t_X10_goOn 67 = some (.bipush 122, 69, 0, [], .constant "" 0 (122)) := rfl
theorem e_X10_goOn_69 : lk t_X10_goOn 69 = some (.invokestatic 90, 72, 0, [3, 0, 0], .code yX10_in cX10_in 3 (some .boolean)) := rfl
theorem e_X10_goOn_72 : lk t_X10_goOn 72 = some (.ifCond .eq 10, 75, 82, [], .returned) := rfl
theorem e_X10_goOn_75 : lk t_X10_goOn 75 = some (.aload_n 0, 76, 0, [], .returned) := rfl
theorem e_X10_goOn_76 : lk t_X10_goOn 76 = some (.invokevirtual 94, 79, 0, [0, 10, 0, 0], .code yX10_goWord cX10_goWord 1 none) := rfl
theorem e_X10_goOn_79 : lk t_X10_goOn 79 = some (.goto 46, 82, 125, [], .returned) := rfl
theorem e_X10_goOn_82 : lk t_X10_goOn 82 = some (.iload_n 1, 83, 1, [], .returned) := rfl
theorem e_X10_goOn_83 : lk t_X10_goOn 83 = some (.bipush 48, 85, 0, [], .constant "" 0 (48)) := rfl
theorem e_X10_goOn_85 : lk t_X10_goOn 85 = some (.bipush 57, 87, 0, [], .constant "" 0 (57)) := rfl
theorem e_X10_goOn_87 : lk t_X10_goOn 87 = some (.invokestatic 90, 90, 0, [3, 0, 0], .code yX10_in cX10_in 3 (some .boolean)) := rfl
theorem e_X10_goOn_90 : lk t_X10_goOn 90 = some (.ifCond .eq 10, 93, 100, [], .returned) := rfl
theorem e_X10_goOn_93 : lk t_X10_goOn 93 = some (.aload_n 0, 94, 0, [], .returned) := rfl
theorem e_X10_goOn_94 : lk t_X10_goOn 94 = some (.invokevirtual 97, 97, 0, [0, 10, 0, 0], .code yX10_goWhole cX10_goWhole 1 none) := rfl
theorem e_X10_goOn_97 : lk t_X10_goOn 97 = some (.goto 28, 100, 125, [], .returned) := rfl
theorem e_X10_goOn_100 : lk t_X10_goOn 100 = some (.aload_n 0, 101, 0, [], .returned) := rfl
theorem e_X10_goOn_101 : lk t_X10_goOn 101 = some (.iload_n 1, 102, 1, [], .returned) := rfl
theorem e_X10_goOn_102 : lk t_X10_goOn 102 = some (.bipush 59, 104, 0, [], .constant "" 0 (59)) := rfl
theorem e_X10_goOn_104 : lk t_X10_goOn 104 = some (.if_icmp .ne 7, 107, 111, [], .returned) := rfl
theorem e_X10_goOn_107 : lk t_X10_goOn 107 = some (.iconst 4, 108, 0, [], .constant "" 0 (4)) := rfl
theorem e_X10_goOn_108 : lk t_X10_goOn 108 = some (.goto 4, 111, 112, [], .returned) := rfl
theorem e_X10_goOn_111 : lk t_X10_goOn 111 = some (.iconst 0, 112, 0, [], .constant "" 0 (0)) := rfl
theorem e_X10_goOn_112 : lk t_X10_goOn 112 = some (.putfield 87, 115, 10, [7, 0], .returned) := rfl
theorem e_X10_goOn_115 : lk t_X10_goOn 115 = some (.aload_n 0, 116, 0, [], .returned) := rfl
theorem e_X10_goOn_116 : lk t_X10_goOn 116 = some (.dup, 117, 0, [], .returned) := rfl
theorem e_X10_goOn_117 : lk t_X10_goOn 117 = some (.getfield 77, 120, 10, [6, 0], .returned) := rfl
theorem e_X10_goOn_120 : lk t_X10_goOn 120 = some (.iconst 1, 121, 0, [], .constant "" 0 (1)) := rfl
theorem e_X10_goOn_121 : lk t_X10_goOn 121 = some (.iadd, 122, 0, [], .returned) := rfl
theorem e_X10_goOn_122 : lk t_X10_goOn 122 = some (.putfield 77, 125, 10, [6, 0], .returned) := rfl
theorem e_X10_goOn_125 : lk t_X10_goOn 125 = some (.return_, 126, 0, [], .returned) := rfl
abbrev q_X10_goWord : MI := (yX10_goWord, cX10_goWord, 1, none)
def t_X10_goWord : Tab := [(0, [], (.aload_n 0, 1, 0, [], .returned)),
  (1, [], (.lconst 0, 2, 0, [], .constantLong "" 0 (0))),
  (2, [1060], (.putfield 100, 5, 10, [11, 1], .returned)),
  (5, [], (.aload_n 0, 6, 0, [], .returned)),
  (6, [], (.aload_n 0, 7, 0, [], .returned)),
  (7, [1055], (.getfield 77, 10, 10, [6, 0], .returned)),
  (10, [1170, 1173, 1172, 38, 102], (.invokevirtual 80, 13, 0, [1, 10, 0, 0], .code yX10_byteAt cX10_byteAt 2 (some .int))),
  (13, [], (.bipush 97, 15, 0, [], .constant "" 0 (97))),
  (15, [], (.bipush 122, 17, 0, [], .constant "" 0 (122))),
  (17, [1174, 1176, 1175, 102], (.invokestatic 90, 20, 0, [3, 0, 0], .code yX10_in cX10_in 3 (some .boolean))),
  (20, [], (.ifCond .eq 51, 23, 71, [], .returned)),
  (23, [], (.aload_n 0, 24, 0, [], .returned)),
  (24, [1055], (.getfield 77, 27, 10, [6, 0], .returned)),
  (27, [], (.aload_n 0, 28, 0, [], .returned)),
  (28, [1057], (.getfield 84, 31, 10, [8, 0], .returned)),
  (31, [], (.isub, 32, 0, [], .returned)),
  (32, [], (.bipush 6, 34, 0, [], .constant "" 0 (6))),
  (34, [], (.if_icmp .ge 24, 37, 58, [], .returned)),
  (37, [], (.aload_n 0, 38, 0, [], .returned)),
  (38, [], (.aload_n 0, 39, 0, [], .returned)),
  (39, [1060], (.getfield 100, 42, 10, [11, 1], .returned)),
  (42, [], (.bipush 8, 44, 0, [], .constant "" 0 (8))),
  (44, [], (.lshl, 45, 0, [], .returned)),
  (45, [], (.aload_n 0, 46, 0, [], .returned)),
  (46, [], (.aload_n 0, 47, 0, [], .returned)),
  (47, [1055], (.getfield 77, 50, 10, [6, 0], .returned)),
  (50, [1170, 1173, 1172, 38, 102], (.invokevirtual 80, 53, 0, [1, 10, 0, 0], .code yX10_byteAt cX10_byteAt 2 (some .int))),
  (53, [], (.i2l, 54, 0, [], .returned)),
  (54, [], (.lor, 55, 0, [], .returned)),
  (55, [1060], (.putfield 100, 58, 10, [11, 1], .returned)),
  (58, [], (.aload_n 0, 59, 0, [], .returned)),
  (59, [], (.dup, 60, 0, [], .returned)),
  (60, [1055], (.getfield 77, 63, 10, [6, 0], .returned)),
  (63, [], (.iconst 1, 64, 0, [], .constant "" 0 (1))),
  (64, [], (.iadd, 65, 0, [], .returned)),
  (65, [1055], (.putfield 77, 68, 10, [6, 0], .returned)),
  (68, [], (.goto (-63), 71, 5, [], .returned)),
  (71, [], (.aload_n 0, 72, 0, [], .returned)),
  (72, [], (.aload_n 0, 73, 0, [], .returned)),
  (73, [1055], (.getfield 77, 76, 10, [6, 0], .returned)),
  (76, [], (.aload_n 0, 77, 0, [], .returned)),
  (77, [1057], (.getfield 84, 80, 10, [8, 0], .returned)),
  (80, [], (.isub, 81, 0, [], .returned)),
  (81, [], (.bipush 6, 83, 0, [], .constant "" 0 (6))),
  (83, [], (.if_icmp .le 7, 86, 90, [], .returned)),
  (86, [], (.iconst 0, 87, 0, [], .constant "" 0 (0))),
  (87, [], (.goto 4, 90, 91, [], .returned)),
  (90, [], (.iconst 2, 91, 0, [], .constant "" 0 (2))),
  (91, [1056], (.putfield 87, 94, 10, [7, 0], .returned)),
  (94, [], (.return_, 95, 0, [], .returned))]
theorem ck_X10_goWord : okT q_X10_goWord t_X10_goWord = true := by decide +kernel
theorem e_X10_goWord_0 : lk t_X10_goWord 0 = some (.aload_n 0, 1, 0, [], .returned) := rfl
theorem e_X10_goWord_1 : lk t_X10_goWord 1 = some (.lconst 0, 2, 0, [], .constantLong "" 0 (0)) := rfl
theorem e_X10_goWord_2 : lk t_X10_goWord 2 = some (.putfield 100, 5, 10, [11, 1], .returned) := rfl
theorem e_X10_goWord_5 : lk t_X10_goWord 5 = some (.aload_n 0, 6, 0, [], .returned) := rfl
theorem e_X10_goWord_6 : lk t_X10_goWord 6 = some (.aload_n 0, 7, 0, [], .returned) := rfl
theorem e_X10_goWord_7 : lk t_X10_goWord 7 = some (.getfield 77, 10, 10, [6, 0], .returned) := rfl
theorem e_X10_goWord_10 : lk t_X10_goWord 10 = some (.invokevirtual 80, 13, 0, [1, 10, 0, 0], .code yX10_byteAt cX10_byteAt 2 (some .int)) := rfl
theorem e_X10_goWord_13 : lk t_X10_goWord 13 = some (.bipush 97, 15, 0, [], .constant "" 0 (97)) := rfl
theorem e_X10_goWord_15 : lk t_X10_goWord 15 = some (.bipush 122, 17, 0, [], .constant "" 0 (122)) := rfl
theorem e_X10_goWord_17 : lk t_X10_goWord 17 = some (.invokestatic 90, 20, 0, [3, 0, 0], .code yX10_in cX10_in 3 (some .boolean)) := rfl
theorem e_X10_goWord_20 : lk t_X10_goWord 20 = some (.ifCond .eq 51, 23, 71, [], .returned) := rfl
theorem e_X10_goWord_23 : lk t_X10_goWord 23 = some (.aload_n 0, 24, 0, [], .returned) := rfl
theorem e_X10_goWord_24 : lk t_X10_goWord 24 = some (.getfield 77, 27, 10, [6, 0], .returned) := rfl
theorem e_X10_goWord_27 : lk t_X10_goWord 27 = some (.aload_n 0, 28, 0, [], .returned) := rfl
theorem e_X10_goWord_28 : lk t_X10_goWord 28 = some (.getfield 84, 31, 10, [8, 0], .returned) := rfl
theorem e_X10_goWord_31 : lk t_X10_goWord 31 = some (.isub, 32, 0, [], .returned) := rfl
theorem e_X10_goWord_32 : lk t_X10_goWord 32 = some (.bipush 6, 34, 0, [], .constant "" 0 (6)) := rfl
theorem e_X10_goWord_34 : lk t_X10_goWord 34 = some (.if_icmp .ge 24, 37, 58, [], .returned) := rfl
theorem e_X10_goWord_37 : lk t_X10_goWord 37 = some (.aload_n 0, 38, 0, [], .returned) := rfl
theorem e_X10_goWord_38 : lk t_X10_goWord 38 = some (.aload_n 0, 39, 0, [], .returned) := rfl
theorem e_X10_goWord_39 : lk t_X10_goWord 39 = some (.getfield 100, 42, 10, [11, 1], .returned) := rfl
theorem e_X10_goWord_42 : lk t_X10_goWord 42 = some (.bipush 8, 44, 0, [], .constant "" 0 (8)) := rfl
theorem e_X10_goWord_44 : lk t_X10_goWord 44 = some (.lshl, 45, 0, [], .returned) := rfl
theorem e_X10_goWord_45 : lk t_X10_goWord 45 = some (.aload_n 0, 46, 0, [], .returned) := rfl
theorem e_X10_goWord_46 : lk t_X10_goWord 46 = some (.aload_n 0, 47, 0, [], .returned) := rfl
theorem e_X10_goWord_47 : lk t_X10_goWord 47 = some (.getfield 77, 50, 10, [6, 0], .returned) := rfl
theorem e_X10_goWord_50 : lk t_X10_goWord 50 = some (.invokevirtual 80, 53, 0, [1, 10, 0, 0], .code yX10_byteAt cX10_byteAt 2 (some .int)) := rfl
theorem e_X10_goWord_53 : lk t_X10_goWord 53 = some (.i2l, 54, 0, [], .returned) := rfl
theorem e_X10_goWord_54 : lk t_X10_goWord 54 = some (.lor, 55, 0, [], .returned) := rfl
theorem e_X10_goWord_55 : lk t_X10_goWord 55 = some (.putfield 100, 58, 10, [11, 1], .returned) := rfl
theorem e_X10_goWord_58 : lk t_X10_goWord 58 = some (.aload_n 0, 59, 0, [], .returned) := rfl
theorem e_X10_goWord_59 : lk t_X10_goWord 59 = some (.dup, 60, 0, [], .returned) := rfl
theorem e_X10_goWord_60 : lk t_X10_goWord 60 = some (.getfield 77, 63, 10, [6, 0], .returned) := rfl
theorem e_X10_goWord_63 : lk t_X10_goWord 63 = some (.iconst 1, 64, 0, [], .constant "" 0 (1)) := rfl
theorem e_X10_goWord_64 : lk t_X10_goWord 64 = some (.iadd, 65, 0, [], .returned) := rfl
theorem e_X10_goWord_65 : lk t_X10_goWord 65 = some (.putfield 77, 68, 10, [6, 0], .returned) := rfl
theorem e_X10_goWord_68 : lk t_X10_goWord 68 = some (.goto (-63), 71, 5, [], .returned) := rfl
theorem e_X10_goWord_71 : lk t_X10_goWord 71 = some (.aload_n 0, 72, 0, [], .returned) := rfl
theorem e_X10_goWord_72 : lk t_X10_goWord 72 = some (.aload_n 0, 73, 0, [], .returned) := rfl
theorem e_X10_goWord_73 : lk t_X10_goWord 73 = some (.getfield 77, 76, 10, [6, 0], .returned) := rfl
theorem e_X10_goWord_76 : lk t_X10_goWord 76 = some (.aload_n 0, 77, 0, [], .returned) := rfl
theorem e_X10_goWord_77 : lk t_X10_goWord 77 = some (.getfield 84, 80, 10, [8, 0], .returned) := rfl
theorem e_X10_goWord_80 : lk t_X10_goWord 80 = some (.isub, 81, 0, [], .returned) := rfl
theorem e_X10_goWord_81 : lk t_X10_goWord 81 = some (.bipush 6, 83, 0, [], .constant "" 0 (6)) := rfl
theorem e_X10_goWord_83 : lk t_X10_goWord 83 = some (.if_icmp .le 7, 86, 90, [], .returned) := rfl
theorem e_X10_goWord_86 : lk t_X10_goWord 86 = some (.iconst 0, 87, 0, [], .constant "" 0 (0)) := rfl
theorem e_X10_goWord_87 : lk t_X10_goWord 87 = some (.goto 4, 90, 91, [], .returned) := rfl
theorem e_X10_goWord_90 : lk t_X10_goWord 90 = some (.iconst 2, 91, 0, [], .constant "" 0 (2)) := rfl
theorem e_X10_goWord_91 : lk t_X10_goWord 91 = some (.putfield 87, 94, 10, [7, 0], .returned) := rfl
theorem e_X10_goWord_94 : lk t_X10_goWord 94 = some (.return_, 95, 0, [], .returned) := rfl
abbrev q_X10_goWhole : MI := (yX10_goWhole, cX10_goWhole, 1, none)
def t_X10_goWhole : Tab := [(0, [], (.aload_n 0, 1, 0, [], .returned)),
  (1, [], (.iconst 0, 2, 0, [], .constant "" 0 (0))),
  (2, [1058], (.putfield 104, 5, 10, [9, 0], .returned)),
  (5, [], (.aload_n 0, 6, 0, [], .returned)),
  (6, [], (.aload_n 0, 7, 0, [], .returned)),
  (7, [1055], (.getfield 77, 10, 10, [6, 0], .returned)),
  (10, [1170, 1173, 1172, 38, 102], (.invokevirtual 80, 13, 0, [1, 10, 0, 0], .code yX10_byteAt cX10_byteAt 2 (some .int))),
  (13, [], (.bipush 48, 15, 0, [], .constant "" 0 (48))),
  (15, [], (.bipush 57, 17, 0, [], .constant "" 0 (57))),
  (17, [1174, 1176, 1175, 102], (.invokestatic 90, 20, 0, [3, 0, 0], .code yX10_in cX10_in 3 (some .boolean))),
  (20, [], (.ifCond .eq 52, 23, 72, [], .returned)),
  (23, [], (.aload_n 0, 24, 0, [], .returned)),
  (24, [1055], (.getfield 77, 27, 10, [6, 0], .returned)),
  (27, [], (.aload_n 0, 28, 0, [], .returned)),
  (28, [1057], (.getfield 84, 31, 10, [8, 0], .returned)),
  (31, [], (.isub, 32, 0, [], .returned)),
  (32, [], (.iconst 5, 33, 0, [], .constant "" 0 (5))),
  (33, [], (.if_icmp .ge 26, 36, 59, [], .returned)),
  (36, [], (.aload_n 0, 37, 0, [], .returned)),
  (37, [], (.bipush 10, 39, 0, [], .constant "" 0 (10))),
  (39, [], (.aload_n 0, 40, 0, [], .returned)),
  (40, [1058], (.getfield 104, 43, 10, [9, 0], .returned)),
  (43, [], (.imul, 44, 0, [], .returned)),
  (44, [], (.aload_n 0, 45, 0, [], .returned)),
  (45, [], (.aload_n 0, 46, 0, [], .returned)),
  (46, [1055], (.getfield 77, 49, 10, [6, 0], .returned)),
  (49, [1170, 1173, 1172, 38, 102], (.invokevirtual 80, 52, 0, [1, 10, 0, 0], .code yX10_byteAt cX10_byteAt 2 (some .int))),
  (52, [], (.iadd, 53, 0, [], .returned)),
  (53, [], (.bipush 48, 55, 0, [], .constant "" 0 (48))),
  (55, [], (.isub, 56, 0, [], .returned)),
  (56, [1058], (.putfield 104, 59, 10, [9, 0], .returned)),
  (59, [], (.aload_n 0, 60, 0, [], .returned)),
  (60, [], (.dup, 61, 0, [], .returned)),
  (61, [1055], (.getfield 77, 64, 10, [6, 0], .returned)),
  (64, [], (.iconst 1, 65, 0, [], .constant "" 0 (1))),
  (65, [], (.iadd, 66, 0, [], .returned)),
  (66, [1055], (.putfield 77, 69, 10, [6, 0], .returned)),
  (69, [], (.goto (-64), 72, 5, [], .returned)),
  (72, [], (.aload_n 0, 73, 0, [], .returned)),
  (73, [], (.aload_n 0, 74, 0, [], .returned)),
  (74, [1055], (.getfield 77, 77, 10, [6, 0], .returned)),
  (77, [], (.aload_n 0, 78, 0, [], .returned)),
  (78, [1057], (.getfield 84, 81, 10, [8, 0], .returned)),
  (81, [], (.isub, 82, 0, [], .returned)),
  (82, [], (.iconst 5, 83, 0, [], .constant "" 0 (5))),
  (83, [], (.if_icmp .le 7, 86, 90, [], .returned)),
  (86, [], (.iconst 0, 87, 0, [], .constant "" 0 (0))),
  (87, [], (.goto 4, 90, 91, [], .returned)),
  (90, [], (.iconst 3, 91, 0, [], .constant "" 0 (3))),
  (91, [1056], (.putfield 87, 94, 10, [7, 0], .returned)),
  (94, [], (.return_, 95, 0, [], .returned))]
theorem ck_X10_goWhole : okT q_X10_goWhole t_X10_goWhole = true := by decide +kernel
theorem e_X10_goWhole_0 : lk t_X10_goWhole 0 = some (.aload_n 0, 1, 0, [], .returned) := rfl
theorem e_X10_goWhole_1 : lk t_X10_goWhole 1 = some (.iconst 0, 2, 0, [], .constant "" 0 (0)) := rfl
theorem e_X10_goWhole_2 : lk t_X10_goWhole 2 = some (.putfield 104, 5, 10, [9, 0], .returned) := rfl
theorem e_X10_goWhole_5 : lk t_X10_goWhole 5 = some (.aload_n 0, 6, 0, [], .returned) := rfl
theorem e_X10_goWhole_6 : lk t_X10_goWhole 6 = some (.aload_n 0, 7, 0, [], .returned) := rfl
theorem e_X10_goWhole_7 : lk t_X10_goWhole 7 = some (.getfield 77, 10, 10, [6, 0], .returned) := rfl
theorem e_X10_goWhole_10 : lk t_X10_goWhole 10 = some (.invokevirtual 80, 13, 0, [1, 10, 0, 0], .code yX10_byteAt cX10_byteAt 2 (some .int)) := rfl
theorem e_X10_goWhole_13 : lk t_X10_goWhole 13 = some (.bipush 48, 15, 0, [], .constant "" 0 (48)) := rfl
theorem e_X10_goWhole_15 : lk t_X10_goWhole 15 = some (.bipush 57, 17, 0, [], .constant "" 0 (57)) := rfl
theorem e_X10_goWhole_17 : lk t_X10_goWhole 17 = some (.invokestatic 90, 20, 0, [3, 0, 0], .code yX10_in cX10_in 3 (some .boolean)) := rfl
theorem e_X10_goWhole_20 : lk t_X10_goWhole 20 = some (.ifCond .eq 52, 23, 72, [], .returned) := rfl
theorem e_X10_goWhole_23 : lk t_X10_goWhole 23 = some (.aload_n 0, 24, 0, [], .returned) := rfl
theorem e_X10_goWhole_24 : lk t_X10_goWhole 24 = some (.getfield 77, 27, 10, [6, 0], .returned) := rfl
theorem e_X10_goWhole_27 : lk t_X10_goWhole 27 = some (.aload_n 0, 28, 0, [], .returned) := rfl
theorem e_X10_goWhole_28 : lk t_X10_goWhole 28 = some (.getfield 84, 31, 10, [8, 0], .returned) := rfl
theorem e_X10_goWhole_31 : lk t_X10_goWhole 31 = some (.isub, 32, 0, [], .returned) := rfl
theorem e_X10_goWhole_32 : lk t_X10_goWhole 32 = some (.iconst 5, 33, 0, [], .constant "" 0 (5)) := rfl
theorem e_X10_goWhole_33 : lk t_X10_goWhole 33 = some (.if_icmp .ge 26, 36, 59, [], .returned) := rfl
theorem e_X10_goWhole_36 : lk t_X10_goWhole 36 = some (.aload_n 0, 37, 0, [], .returned) := rfl
theorem e_X10_goWhole_37 : lk t_X10_goWhole 37 = some (.bipush 10, 39, 0, [], .constant "" 0 (10)) := rfl
theorem e_X10_goWhole_39 : lk t_X10_goWhole 39 = some (.aload_n 0, 40, 0, [], .returned) := rfl
theorem e_X10_goWhole_40 : lk t_X10_goWhole 40 = some (.getfield 104, 43, 10, [9, 0], .returned) := rfl
theorem e_X10_goWhole_43 : lk t_X10_goWhole 43 = some (.imul, 44, 0, [], .returned) := rfl
theorem e_X10_goWhole_44 : lk t_X10_goWhole 44 = some (.aload_n 0, 45, 0, [], .returned) := rfl
theorem e_X10_goWhole_45 : lk t_X10_goWhole 45 = some (.aload_n 0, 46, 0, [], .returned) := rfl
theorem e_X10_goWhole_46 : lk t_X10_goWhole 46 = some (.getfield 77, 49, 10, [6, 0], .returned) := rfl
theorem e_X10_goWhole_49 : lk t_X10_goWhole 49 = some (.invokevirtual 80, 52, 0, [1, 10, 0, 0], .code yX10_byteAt cX10_byteAt 2 (some .int)) := rfl
theorem e_X10_goWhole_52 : lk t_X10_goWhole 52 = some (.iadd, 53, 0, [], .returned) := rfl
theorem e_X10_goWhole_53 : lk t_X10_goWhole 53 = some (.bipush 48, 55, 0, [], .constant "" 0 (48)) := rfl
theorem e_X10_goWhole_55 : lk t_X10_goWhole 55 = some (.isub, 56, 0, [], .returned) := rfl
theorem e_X10_goWhole_56 : lk t_X10_goWhole 56 = some (.putfield 104, 59, 10, [9, 0], .returned) := rfl
theorem e_X10_goWhole_59 : lk t_X10_goWhole 59 = some (.aload_n 0, 60, 0, [], .returned) := rfl
theorem e_X10_goWhole_60 : lk t_X10_goWhole 60 = some (.dup, 61, 0, [], .returned) := rfl
theorem e_X10_goWhole_61 : lk t_X10_goWhole 61 = some (.getfield 77, 64, 10, [6, 0], .returned) := rfl
theorem e_X10_goWhole_64 : lk t_X10_goWhole 64 = some (.iconst 1, 65, 0, [], .constant "" 0 (1)) := rfl
theorem e_X10_goWhole_65 : lk t_X10_goWhole 65 = some (.iadd, 66, 0, [], .returned) := rfl
theorem e_X10_goWhole_66 : lk t_X10_goWhole 66 = some (.putfield 77, 69, 10, [6, 0], .returned) := rfl
theorem e_X10_goWhole_69 : lk t_X10_goWhole 69 = some (.goto (-64), 72, 5, [], .returned) := rfl
theorem e_X10_goWhole_72 : lk t_X10_goWhole 72 = some (.aload_n 0, 73, 0, [], .returned) := rfl
theorem e_X10_goWhole_73 : lk t_X10_goWhole 73 = some (.aload_n 0, 74, 0, [], .returned) := rfl
theorem e_X10_goWhole_74 : lk t_X10_goWhole 74 = some (.getfield 77, 77, 10, [6, 0], .returned) := rfl
theorem e_X10_goWhole_77 : lk t_X10_goWhole 77 = some (.aload_n 0, 78, 0, [], .returned) := rfl
theorem e_X10_goWhole_78 : lk t_X10_goWhole 78 = some (.getfield 84, 81, 10, [8, 0], .returned) := rfl
theorem e_X10_goWhole_81 : lk t_X10_goWhole 81 = some (.isub, 82, 0, [], .returned) := rfl
theorem e_X10_goWhole_82 : lk t_X10_goWhole 82 = some (.iconst 5, 83, 0, [], .constant "" 0 (5)) := rfl
theorem e_X10_goWhole_83 : lk t_X10_goWhole 83 = some (.if_icmp .le 7, 86, 90, [], .returned) := rfl
theorem e_X10_goWhole_86 : lk t_X10_goWhole 86 = some (.iconst 0, 87, 0, [], .constant "" 0 (0)) := rfl
theorem e_X10_goWhole_87 : lk t_X10_goWhole 87 = some (.goto 4, 90, 91, [], .returned) := rfl
theorem e_X10_goWhole_90 : lk t_X10_goWhole 90 = some (.iconst 3, 91, 0, [], .constant "" 0 (3)) := rfl
theorem e_X10_goWhole_91 : lk t_X10_goWhole 91 = some (.putfield 87, 94, 10, [7, 0], .returned) := rfl
theorem e_X10_goWhole_94 : lk t_X10_goWhole 94 = some (.return_, 95, 0, [], .returned) := rfl
abbrev q_X10_flaw : MI := (yX10_flaw, cX10_flaw, 2, none)
def t_X10_flaw : Tab := [(0, [], (.aload_n 0, 1, 0, [], .returned)),
  (1, [1059], (.getfield 74, 4, 10, [10, 0], .returned)),
  (4, [], (.ifCond .ne 8, 7, 12, [], .returned)),
  (7, [], (.aload_n 0, 8, 0, [], .returned)),
  (8, [], (.iload_n 1, 9, 1, [], .returned)),
  (9, [1059], (.putfield 74, 12, 10, [10, 0], .returned)),
  (12, [], (.aload_n 0, 13, 0, [], .returned)),
  (13, [], (.iconst 0, 14, 0, [], .constant "" 0 (0))),
  (14, [1056], (.putfield 87, 17, 10, [7, 0], .returned)),
  (17, [], (.return_, 18, 0, [], .returned))]
theorem ck_X10_flaw : okT q_X10_flaw t_X10_flaw = true := by decide +kernel
theorem e_X10_flaw_0 : lk t_X10_flaw 0 = some (.aload_n 0, 1, 0, [], .returned) := rfl
theorem e_X10_flaw_1 : lk t_X10_flaw 1 = some (.getfield 74, 4, 10, [10, 0], .returned) := rfl
theorem e_X10_flaw_4 : lk t_X10_flaw 4 = some (.ifCond .ne 8, 7, 12, [], .returned) := rfl
theorem e_X10_flaw_7 : lk t_X10_flaw 7 = some (.aload_n 0, 8, 0, [], .returned) := rfl
theorem e_X10_flaw_8 : lk t_X10_flaw 8 = some (.iload_n 1, 9, 1, [], .returned) := rfl
theorem e_X10_flaw_9 : lk t_X10_flaw 9 = some (.putfield 74, 12, 10, [10, 0], .returned) := rfl
theorem e_X10_flaw_12 : lk t_X10_flaw 12 = some (.aload_n 0, 13, 0, [], .returned) := rfl
theorem e_X10_flaw_13 : lk t_X10_flaw 13 = some (.iconst 0, 14, 0, [], .constant "" 0 (0)) := rfl
theorem e_X10_flaw_14 : lk t_X10_flaw 14 = some (.putfield 87, 17, 10, [7, 0], .returned) := rfl
theorem e_X10_flaw_17 : lk t_X10_flaw 17 = some (.return_, 18, 0, [], .returned) := rfl
abbrev q_X10_isWord : MI := (yX10_isWord, cX10_isWord, 5, (some .boolean))
def t_X10_isWord : Tab := [(0, [], (.lconst 0, 1, 0, [], .constantLong "" 0 (0))),
  (1, [], (.lstore_n 2, 2, 2, [], .returned)),
  (2, [], (.iconst 0, 3, 0, [], .constant "" 0 (0))),
  (3, [], (.istore 4, 5, 4, [], .returned)),
  (5, [], (.iload 4, 7, 4, [], .returned)),
  (7, [], (.aload_n 1, 8, 1, [], .returned)),
  (8, [1194, 1197, 1195, 1196, 105], (.invokevirtual 107, 11, 0, [0], .code yJ0_length_8abf5 cJ0_length_8abf5 1 (some .int))),
  (11, [], (.if_icmp .ge 22, 14, 33, [], .returned)),
  (14, [], (.lload_n 2, 15, 2, [], .returned)),
  (15, [], (.bipush 8, 17, 0, [], .constant "" 0 (8))),
  (17, [], (.lshl, 18, 0, [], .returned)),
  (18, [], (.aload_n 1, 19, 1, [], .returned)),
  (19, [], (.iload 4, 21, 4, [], .returned)),
  (21, [1204, 1207, 1205, 1206, 105], (.invokevirtual 113, 24, 0, [1], .code yJ0_charAt_5068e cJ0_charAt_5068e 2 (some .char))),
  (24, [], (.i2l, 25, 0, [], .returned)),
  (25, [], (.lor, 26, 0, [], .returned)),
  (26, [], (.lstore_n 2, 27, 2, [], .returned)),
  (27, [], (.iinc 4 1, 30, 4, [], .constant "" 0 (1))),
  (30, [], (.goto (-25), 33, 5, [], .returned)),
  (33, [], (.aload_n 0, 34, 0, [], .returned)),
  (34, [1056], (.getfield 87, 37, 10, [7, 0], .returned)),
  (37, [], (.iconst 2, 38, 0, [], .constant "" 0 (2))),
  (38, [], (.if_icmp .ne 16, 41, 54, [], .returned)),
  (41, [], (.aload_n 0, 42, 0, [], .returned)),
  (42, [1060], (.getfield 100, 45, 10, [11, 1], .returned)),
  (45, [], (.lload_n 2, 46, 2, [], .returned)),
  (46, [], (.lcmp, 47, 0, [], .returned)),
  (47, [], (.ifCond .ne 7, 50, 54, [], .returned)),
  (50, [], (.iconst 1, 51, 0, [], .constant "" 0 (1))),
  (51, [], (.goto 4, 54, 55, [], .returned)),
  (54, [], (.iconst 0, 55, 0, [], .constant "" 0 (0))),
  (55, [], (.ireturn, 56, 1, [], .returned))]
theorem ck_X10_isWord : okT q_X10_isWord t_X10_isWord = true := by decide +kernel
theorem e_X10_isWord_0 : lk t_X10_isWord 0 = some (.lconst 0, 1, 0, [], .constantLong "" 0 (0)) := rfl
theorem e_X10_isWord_1 : lk t_X10_isWord 1 = some (.lstore_n 2, 2, 2, [], .returned) := rfl
theorem e_X10_isWord_2 : lk t_X10_isWord 2 = some (.iconst 0, 3, 0, [], .constant "" 0 (0)) := rfl
theorem e_X10_isWord_3 : lk t_X10_isWord 3 = some (.istore 4, 5, 4, [], .returned) := rfl
theorem e_X10_isWord_5 : lk t_X10_isWord 5 = some (.iload 4, 7, 4, [], .returned) := rfl
theorem e_X10_isWord_7 : lk t_X10_isWord 7 = some (.aload_n 1, 8, 1, [], .returned) := rfl
theorem e_X10_isWord_8 : lk t_X10_isWord 8 = some (.invokevirtual 107, 11, 0, [0], .code yJ0_length_8abf5 cJ0_length_8abf5 1 (some .int)) := rfl
theorem e_X10_isWord_11 : lk t_X10_isWord 11 = some (.if_icmp .ge 22, 14, 33, [], .returned) := rfl
theorem e_X10_isWord_14 : lk t_X10_isWord 14 = some (.lload_n 2, 15, 2, [], .returned) := rfl
theorem e_X10_isWord_15 : lk t_X10_isWord 15 = some (.bipush 8, 17, 0, [], .constant "" 0 (8)) := rfl
theorem e_X10_isWord_17 : lk t_X10_isWord 17 = some (.lshl, 18, 0, [], .returned) := rfl
theorem e_X10_isWord_18 : lk t_X10_isWord 18 = some (.aload_n 1, 19, 1, [], .returned) := rfl
theorem e_X10_isWord_19 : lk t_X10_isWord 19 = some (.iload 4, 21, 4, [], .returned) := rfl
theorem e_X10_isWord_21 : lk t_X10_isWord 21 = some (.invokevirtual 113, 24, 0, [1], .code yJ0_charAt_5068e cJ0_charAt_5068e 2 (some .char)) := rfl
theorem e_X10_isWord_24 : lk t_X10_isWord 24 = some (.i2l, 25, 0, [], .returned) := rfl
theorem e_X10_isWord_25 : lk t_X10_isWord 25 = some (.lor, 26, 0, [], .returned) := rfl
theorem e_X10_isWord_26 : lk t_X10_isWord 26 = some (.lstore_n 2, 27, 2, [], .returned) := rfl
theorem e_X10_isWord_27 : lk t_X10_isWord 27 = some (.iinc 4 1, 30, 4, [], .constant "" 0 (1)) := rfl
theorem e_X10_isWord_30 : lk t_X10_isWord 30 = some (.goto (-25), 33, 5, [], .returned) := rfl
theorem e_X10_isWord_33 : lk t_X10_isWord 33 = some (.aload_n 0, 34, 0, [], .returned) := rfl
theorem e_X10_isWord_34 : lk t_X10_isWord 34 = some (.getfield 87, 37, 10, [7, 0], .returned) := rfl
theorem e_X10_isWord_37 : lk t_X10_isWord 37 = some (.iconst 2, 38, 0, [], .constant "" 0 (2)) := rfl
theorem e_X10_isWord_38 : lk t_X10_isWord 38 = some (.if_icmp .ne 16, 41, 54, [], .returned) := rfl
theorem e_X10_isWord_41 : lk t_X10_isWord 41 = some (.aload_n 0, 42, 0, [], .returned) := rfl
theorem e_X10_isWord_42 : lk t_X10_isWord 42 = some (.getfield 100, 45, 10, [11, 1], .returned) := rfl
theorem e_X10_isWord_45 : lk t_X10_isWord 45 = some (.lload_n 2, 46, 2, [], .returned) := rfl
theorem e_X10_isWord_46 : lk t_X10_isWord 46 = some (.lcmp, 47, 0, [], .returned) := rfl
theorem e_X10_isWord_47 : lk t_X10_isWord 47 = some (.ifCond .ne 7, 50, 54, [], .returned) := rfl
theorem e_X10_isWord_50 : lk t_X10_isWord 50 = some (.iconst 1, 51, 0, [], .constant "" 0 (1)) := rfl
theorem e_X10_isWord_51 : lk t_X10_isWord 51 = some (.goto 4, 54, 55, [], .returned) := rfl
theorem e_X10_isWord_54 : lk t_X10_isWord 54 = some (.iconst 0, 55, 0, [], .constant "" 0 (0)) := rfl
theorem e_X10_isWord_55 : lk t_X10_isWord 55 = some (.ireturn, 56, 1, [], .returned) := rfl
abbrev q_X10_needs : MI := (yX10_needs, cX10_needs, 2, none)
def t_X10_needs : Tab := [(0, [], (.aload_n 0, 1, 0, [], .returned)),
  (1, [], (.aload_n 1, 2, 1, [], .returned)),
  (2, [1190, 1193, 1192, 42, 102], (.invokevirtual 117, 5, 0, [1, 10, 0, 0], .code yX10_isWord cX10_isWord 5 (some .boolean))),
  (5, [], (.ifCond .ne 8, 8, 13, [], .returned)),
  (8, [], (.aload_n 0, 9, 0, [], .returned)),
  (9, [], (.iconst 1, 10, 0, [], .constant "" 0 (1))),
  (10, [1246, 1249, 1248, 44, 102], (.invokevirtual 121, 13, 0, [1, 10, 0, 0], .code yX10_flaw cX10_flaw 2 none)),
  (13, [], (.aload_n 0, 14, 0, [], .returned)),
  (14, [1166, 1169, 1168, 37, 102], (.invokevirtual 125, 17, 0, [0, 10, 0, 0], .code yX10_goOn cX10_goOn 2 none)),
  (17, [], (.return_, 18, 0, [], .returned))]
theorem ck_X10_needs : okT q_X10_needs t_X10_needs = true := by decide +kernel
theorem e_X10_needs_0 : lk t_X10_needs 0 = some (.aload_n 0, 1, 0, [], .returned) := rfl
theorem e_X10_needs_1 : lk t_X10_needs 1 = some (.aload_n 1, 2, 1, [], .returned) := rfl
theorem e_X10_needs_2 : lk t_X10_needs 2 = some (.invokevirtual 117, 5, 0, [1, 10, 0, 0], .code yX10_isWord cX10_isWord 5 (some .boolean)) := rfl
theorem e_X10_needs_5 : lk t_X10_needs 5 = some (.ifCond .ne 8, 8, 13, [], .returned) := rfl
theorem e_X10_needs_8 : lk t_X10_needs 8 = some (.aload_n 0, 9, 0, [], .returned) := rfl
theorem e_X10_needs_9 : lk t_X10_needs 9 = some (.iconst 1, 10, 0, [], .constant "" 0 (1)) := rfl
theorem e_X10_needs_10 : lk t_X10_needs 10 = some (.invokevirtual 121, 13, 0, [1, 10, 0, 0], .code yX10_flaw cX10_flaw 2 none) := rfl
theorem e_X10_needs_13 : lk t_X10_needs 13 = some (.aload_n 0, 14, 0, [], .returned) := rfl
theorem e_X10_needs_14 : lk t_X10_needs 14 = some (.invokevirtual 125, 17, 0, [0, 10, 0, 0], .code yX10_goOn cX10_goOn 2 none) := rfl
theorem e_X10_needs_17 : lk t_X10_needs 17 = some (.return_, 18, 0, [], .returned) := rfl
abbrev q_X10_readWhole : MI := (yX10_readWhole, cX10_readWhole, 4, (some .int))
def t_X10_readWhole : Tab := [(0, [], (.aload_n 0, 1, 0, [], .returned)),
  (1, [1056], (.getfield 87, 4, 10, [7, 0], .returned)),
  (4, [], (.iconst 3, 5, 0, [], .constant "" 0 (3))),
  (5, [], (.if_icmp .eq 11, 8, 16, [], .returned)),
  (8, [], (.aload_n 0, 9, 0, [], .returned)),
  (9, [], (.iconst 1, 10, 0, [], .constant "" 0 (1))),
  (10, [1246, 1249, 1248, 44, 102], (.invokevirtual 121, 13, 0, [1, 10, 0, 0], .code yX10_flaw cX10_flaw 2 none)),
  (13, [], (.goto 20, 16, 33, [], .returned)),
  (16, [], (.aload_n 0, 17, 0, [], .returned)),
  (17, [1058], (.getfield 104, 20, 10, [9, 0], .returned)),
  (20, [], (.iload_n 1, 21, 1, [], .returned)),
  (21, [], (.iload_n 2, 22, 2, [], .returned)),
  (22, [1174, 1176, 1175, 102], (.invokestatic 90, 25, 0, [3, 0, 0], .code yX10_in cX10_in 3 (some .boolean))),
  (25, [], (.ifCond .ne 8, 28, 33, [], .returned)),
  (28, [], (.aload_n 0, 29, 0, [], .returned)),
  (29, [], (.iconst 2, 30, 0, [], .constant "" 0 (2))),
  (30, [1246, 1249, 1248, 44, 102], (.invokevirtual 121, 33, 0, [1, 10, 0, 0], .code yX10_flaw cX10_flaw 2 none)),
  (33, [], (.aload_n 0, 34, 0, [], .returned)),
  (34, [1058], (.getfield 104, 37, 10, [9, 0], .returned)),
  (37, [], (.istore_n 3, 38, 3, [], .returned)),
  (38, [], (.aload_n 0, 39, 0, [], .returned)),
  (39, [1166, 1169, 1168, 37, 102], (.invokevirtual 125, 42, 0, [0, 10, 0, 0], .code yX10_goOn cX10_goOn 2 none)),
  (42, [], (.iload_n 3, 43, 3, [], .returned)),
  (43, [], (.ireturn, 44, 0, [], .returned))]
theorem ck_X10_readWhole : okT q_X10_readWhole t_X10_readWhole = true := by decide +kernel
theorem e_X10_readWhole_0 : lk t_X10_readWhole 0 = some (.aload_n 0, 1, 0, [], .returned) := rfl
theorem e_X10_readWhole_1 : lk t_X10_readWhole 1 = some (.getfield 87, 4, 10, [7, 0], .returned) := rfl
theorem e_X10_readWhole_4 : lk t_X10_readWhole 4 = some (.iconst 3, 5, 0, [], .constant "" 0 (3)) := rfl
theorem e_X10_readWhole_5 : lk t_X10_readWhole 5 = some (.if_icmp .eq 11, 8, 16, [], .returned) := rfl
theorem e_X10_readWhole_8 : lk t_X10_readWhole 8 = some (.aload_n 0, 9, 0, [], .returned) := rfl
theorem e_X10_readWhole_9 : lk t_X10_readWhole 9 = some (.iconst 1, 10, 0, [], .constant "" 0 (1)) := rfl
theorem e_X10_readWhole_10 : lk t_X10_readWhole 10 = some (.invokevirtual 121, 13, 0, [1, 10, 0, 0], .code yX10_flaw cX10_flaw 2 none) := rfl
theorem e_X10_readWhole_13 : lk t_X10_readWhole 13 = some (.goto 20, 16, 33, [], .returned) := rfl
theorem e_X10_readWhole_16 : lk t_X10_readWhole 16 = some (.aload_n 0, 17, 0, [], .returned) := rfl
theorem e_X10_readWhole_17 : lk t_X10_readWhole 17 = some (.getfield 104, 20, 10, [9, 0], .returned) := rfl
theorem e_X10_readWhole_20 : lk t_X10_readWhole 20 = some (.iload_n 1, 21, 1, [], .returned) := rfl
theorem e_X10_readWhole_21 : lk t_X10_readWhole 21 = some (.iload_n 2, 22, 2, [], .returned) := rfl
theorem e_X10_readWhole_22 : lk t_X10_readWhole 22 = some (.invokestatic 90, 25, 0, [3, 0, 0], .code yX10_in cX10_in 3 (some .boolean)) := rfl
theorem e_X10_readWhole_25 : lk t_X10_readWhole 25 = some (.ifCond .ne 8, 28, 33, [], .returned) := rfl
theorem e_X10_readWhole_28 : lk t_X10_readWhole 28 = some (.aload_n 0, 29, 0, [], .returned) := rfl
theorem e_X10_readWhole_29 : lk t_X10_readWhole 29 = some (.iconst 2, 30, 0, [], .constant "" 0 (2)) := rfl
theorem e_X10_readWhole_30 : lk t_X10_readWhole 30 = some (.invokevirtual 121, 33, 0, [1, 10, 0, 0], .code yX10_flaw cX10_flaw 2 none) := rfl
theorem e_X10_readWhole_33 : lk t_X10_readWhole 33 = some (.aload_n 0, 34, 0, [], .returned) := rfl
theorem e_X10_readWhole_34 : lk t_X10_readWhole 34 = some (.getfield 104, 37, 10, [9, 0], .returned) := rfl
theorem e_X10_readWhole_37 : lk t_X10_readWhole 37 = some (.istore_n 3, 38, 3, [], .returned) := rfl
theorem e_X10_readWhole_38 : lk t_X10_readWhole 38 = some (.aload_n 0, 39, 0, [], .returned) := rfl
theorem e_X10_readWhole_39 : lk t_X10_readWhole 39 = some (.invokevirtual 125, 42, 0, [0, 10, 0, 0], .code yX10_goOn cX10_goOn 2 none) := rfl
theorem e_X10_readWhole_42 : lk t_X10_readWhole 42 = some (.iload_n 3, 43, 3, [], .returned) := rfl
theorem e_X10_readWhole_43 : lk t_X10_readWhole 43 = some (.ireturn, 44, 0, [], .returned) := rfl
abbrev q_X10_readPart : MI := (yX10_readPart, cX10_readPart, 4, (some .int))
def t_X10_readPart : Tab := [(0, [], (.aload_n 0, 1, 0, [], .returned)),
  (1, [], (.aload_n 1, 2, 1, [], .returned)),
  (2, [1255, 1258, 1257, 46, 102], (.invokevirtual 128, 5, 0, [1, 10, 0, 0], .code yX10_needs cX10_needs 2 none)),
  (5, [], (.aload_n 0, 6, 0, [], .returned)),
  (6, [], (.iload_n 2, 7, 2, [], .returned)),
  (7, [], (.iload_n 3, 8, 3, [], .returned)),
  (8, [1259, 1262, 1261, 47, 102], (.invokevirtual 132, 11, 0, [2, 10, 0, 0], .code yX10_readWhole cX10_readWhole 4 (some .int))),
  (11, [], (.ireturn, 12, 0, [], .returned))]
theorem ck_X10_readPart : okT q_X10_readPart t_X10_readPart = true := by decide +kernel
theorem e_X10_readPart_0 : lk t_X10_readPart 0 = some (.aload_n 0, 1, 0, [], .returned) := rfl
theorem e_X10_readPart_1 : lk t_X10_readPart 1 = some (.aload_n 1, 2, 1, [], .returned) := rfl
theorem e_X10_readPart_2 : lk t_X10_readPart 2 = some (.invokevirtual 128, 5, 0, [1, 10, 0, 0], .code yX10_needs cX10_needs 2 none) := rfl
theorem e_X10_readPart_5 : lk t_X10_readPart 5 = some (.aload_n 0, 6, 0, [], .returned) := rfl
theorem e_X10_readPart_6 : lk t_X10_readPart 6 = some (.iload_n 2, 7, 2, [], .returned) := rfl
theorem e_X10_readPart_7 : lk t_X10_readPart 7 = some (.iload_n 3, 8, 3, [], .returned) := rfl
theorem e_X10_readPart_8 : lk t_X10_readPart 8 = some (.invokevirtual 132, 11, 0, [2, 10, 0, 0], .code yX10_readWhole cX10_readWhole 4 (some .int)) := rfl
theorem e_X10_readPart_11 : lk t_X10_readPart 11 = some (.ireturn, 12, 0, [], .returned) := rfl
abbrev q_X10_feed : MI := (yX10_feed, cX10_feed, 8, (some .int))
def t_X10_feed : Tab := [(0, [], (.aload_n 0, 1, 0, [], .returned)),
  (1, [], (.iconst 0, 2, 0, [], .constant "" 0 (0))),
  (2, [1049], (.putfield 65, 5, 10, [0, 0], .returned)),
  (5, [], (.aload_n 0, 6, 0, [], .returned)),
  (6, [1053], (.getfield 136, 9, 10, [4, 0], .returned)),
  (9, [], (.bipush 20, 11, 0, [], .constant "" 0 (20))),
  (11, [], (.iadd, 12, 0, [], .returned)),
  (12, [], (.sipush 500, 15, 0, [], .constant "" 0 (500))),
  (15, [], (.if_icmp .le 5, 18, 20, [], .returned)),
  (18, [], (.iconst (-1), 19, 0, [], .constant "" 0 (-1))),
  (19, [], (.ireturn, 20, 0, [], .returned)),
  (20, [], (.iconst 0, 21, 0, [], .constant "" 0 (0))),
  (21, [], (.istore 6, 23, 6, [], .returned)),
  (23, [], (.iload 6, 25, 6, [], .returned)),
  (25, [], (.bipush 20, 27, 0, [], .constant "" 0 (20))),
  (27, [], (.if_icmp .ge 90, 30, 117, [], .returned)),
  (30, [], (.iload 6, 32, 6, [], .returned)),
  (32, [], (.iconst 4, 33, 0, [], .constant "" 0 (4))),
  (33, [], (.if_icmp .ge 7, 36, 40, [], .returned)),
  (36, [], (.iload_n 1, 37, 1, [], .returned)),
  (37, [], (.goto 39, 40, 76, [], .returned)),
  (40, [], (.iload 6, 42, 6, [], .returned)),
  (42, [], (.bipush 8, 44, 0, [], .constant "" 0 (8))),
  (44, [], (.if_icmp .ge 7, 47, 51, [], .returned)),
  (47, [], (.iload_n 2, 48, 2, [], .returned)),
  (48, [], (.goto 28, 51, 76, [], .returned)),
  (51, [], (.iload 6, 53, 6, [], .returned)),
  (53, [], (.bipush 12, 55, 0, [], .constant "" 0 (12))),
  (55, [], (.if_icmp .ge 7, 58, 62, [], .returned)),
  (58, [], (.iload_n 3, 59, 3, [], .returned)),
  (59, [], (.goto 17, 62, 76, [], .returned)),
  (62, [], (.iload 6, 64, 6, [], .returned)),
  (64, [], (.bipush 16, 66, 0, [], .constant "" 0 (16))),
  (66, [], (.if_icmp .ge 8, 69, 74, [], .returned)),
  (69, [], (.iload 4, 71, 4, [], .returned)),
  (71, [], (.goto 5, 74, 76, [], .returned)),
  (74, [], (.iload 5, 76, 5, [], .returned)),
  (76, [], (.istore 7, 78, 7, [], .returned)),
  (78, [], (.aload_n 0, 79, 0, [], .returned)),
  (79, [1052], (.getfield 13, 82, 10, [3, 2], .returned)),
  (82, [], (.aload_n 0, 83, 0, [], .returned)),
  (83, [1053], (.getfield 136, 86, 10, [4, 0], .returned)),
  (86, [], (.iload 7, 88, 7, [], .returned)),
  (88, [], (.bipush 24, 90, 0, [], .constant "" 0 (24))),
  (90, [], (.bipush 8, 92, 0, [], .constant "" 0 (8))),
  (92, [], (.iload 6, 94, 6, [], .returned)),
  (94, [], (.iconst 4, 95, 0, [], .constant "" 0 (4))),
  (95, [], (.irem, 96, 0, [], .returned)),
  (96, [], (.imul, 97, 0, [], .returned)),
  (97, [], (.isub, 98, 0, [], .returned)),
  (98, [], (.ishr, 99, 0, [], .returned)),
  (99, [], (.i2b, 100, 0, [], .returned)),
  (100, [], (.bastore, 101, 0, [], .returned)),
  (101, [], (.aload_n 0, 102, 0, [], .returned)),
  (102, [], (.dup, 103, 0, [], .returned)),
  (103, [1053], (.getfield 136, 106, 10, [4, 0], .returned)),
  (106, [], (.iconst 1, 107, 0, [], .constant "" 0 (1))),
  (107, [], (.iadd, 108, 0, [], .returned)),
  (108, [1053], (.putfield 136, 111, 10, [4, 0], .returned)),
  (111, [], (.iinc 6 1, 114, 6, [], .constant "" 0 (1))),
  (114, [], (.goto (-91), 117, 23, [], .returned)),
  (117, [], (.aload_n 0, 118, 0, [], .returned)),
  (118, [1053], (.getfield 136, 121, 10, [4, 0], .returned)),
  (121, [], (.ireturn, 122, 0, [], .returned))]
theorem ck_X10_feed : okT q_X10_feed t_X10_feed = true := by decide +kernel
theorem e_X10_feed_0 : lk t_X10_feed 0 = some (.aload_n 0, 1, 0, [], .returned) := rfl
theorem e_X10_feed_1 : lk t_X10_feed 1 = some (.iconst 0, 2, 0, [], .constant "" 0 (0)) := rfl
theorem e_X10_feed_2 : lk t_X10_feed 2 = some (.putfield 65, 5, 10, [0, 0], .returned) := rfl
theorem e_X10_feed_5 : lk t_X10_feed 5 = some (.aload_n 0, 6, 0, [], .returned) := rfl
theorem e_X10_feed_6 : lk t_X10_feed 6 = some (.getfield 136, 9, 10, [4, 0], .returned) := rfl
theorem e_X10_feed_9 : lk t_X10_feed 9 = some (.bipush 20, 11, 0, [], .constant "" 0 (20)) := rfl
theorem e_X10_feed_11 : lk t_X10_feed 11 = some (.iadd, 12, 0, [], .returned) := rfl
theorem e_X10_feed_12 : lk t_X10_feed 12 = some (.sipush 500, 15, 0, [], .constant "" 0 (500)) := rfl
theorem e_X10_feed_15 : lk t_X10_feed 15 = some (.if_icmp .le 5, 18, 20, [], .returned) := rfl
theorem e_X10_feed_18 : lk t_X10_feed 18 = some (.iconst (-1), 19, 0, [], .constant "" 0 (-1)) := rfl
theorem e_X10_feed_19 : lk t_X10_feed 19 = some (.ireturn, 20, 0, [], .returned) := rfl
theorem e_X10_feed_20 : lk t_X10_feed 20 = some (.iconst 0, 21, 0, [], .constant "" 0 (0)) := rfl
theorem e_X10_feed_21 : lk t_X10_feed 21 = some (.istore 6, 23, 6, [], .returned) := rfl
theorem e_X10_feed_23 : lk t_X10_feed 23 = some (.iload 6, 25, 6, [], .returned) := rfl
theorem e_X10_feed_25 : lk t_X10_feed 25 = some (.bipush 20, 27, 0, [], .constant "" 0 (20)) := rfl
theorem e_X10_feed_27 : lk t_X10_feed 27 = some (.if_icmp .ge 90, 30, 117, [], .returned) := rfl
theorem e_X10_feed_30 : lk t_X10_feed 30 = some (.iload 6, 32, 6, [], .returned) := rfl
theorem e_X10_feed_32 : lk t_X10_feed 32 = some (.iconst 4, 33, 0, [], .constant "" 0 (4)) := rfl
theorem e_X10_feed_33 : lk t_X10_feed 33 = some (.if_icmp .ge 7, 36, 40, [], .returned) := rfl
theorem e_X10_feed_36 : lk t_X10_feed 36 = some (.iload_n 1, 37, 1, [], .returned) := rfl
theorem e_X10_feed_37 : lk t_X10_feed 37 = some (.goto 39, 40, 76, [], .returned) := rfl
theorem e_X10_feed_40 : lk t_X10_feed 40 = some (.iload 6, 42, 6, [], .returned) := rfl
theorem e_X10_feed_42 : lk t_X10_feed 42 = some (.bipush 8, 44, 0, [], .constant "" 0 (8)) := rfl
theorem e_X10_feed_44 : lk t_X10_feed 44 = some (.if_icmp .ge 7, 47, 51, [], .returned) := rfl
theorem e_X10_feed_47 : lk t_X10_feed 47 = some (.iload_n 2, 48, 2, [], .returned) := rfl
theorem e_X10_feed_48 : lk t_X10_feed 48 = some (.goto 28, 51, 76, [], .returned) := rfl
theorem e_X10_feed_51 : lk t_X10_feed 51 = some (.iload 6, 53, 6, [], .returned) := rfl
theorem e_X10_feed_53 : lk t_X10_feed 53 = some (.bipush 12, 55, 0, [], .constant "" 0 (12)) := rfl
theorem e_X10_feed_55 : lk t_X10_feed 55 = some (.if_icmp .ge 7, 58, 62, [], .returned) := rfl
theorem e_X10_feed_58 : lk t_X10_feed 58 = some (.iload_n 3, 59, 3, [], .returned) := rfl
theorem e_X10_feed_59 : lk t_X10_feed 59 = some (.goto 17, 62, 76, [], .returned) := rfl
theorem e_X10_feed_62 : lk t_X10_feed 62 = some (.iload 6, 64, 6, [], .returned) := rfl
theorem e_X10_feed_64 : lk t_X10_feed 64 = some (.bipush 16, 66, 0, [], .constant "" 0 (16)) := rfl
theorem e_X10_feed_66 : lk t_X10_feed 66 = some (.if_icmp .ge 8, 69, 74, [], .returned) := rfl
theorem e_X10_feed_69 : lk t_X10_feed 69 = some (.iload 4, 71, 4, [], .returned) := rfl
theorem e_X10_feed_71 : lk t_X10_feed 71 = some (.goto 5, 74, 76, [], .returned) := rfl
theorem e_X10_feed_74 : lk t_X10_feed 74 = some (.iload 5, 76, 5, [], .returned) := rfl
theorem e_X10_feed_76 : lk t_X10_feed 76 = some (.istore 7, 78, 7, [], .returned) := rfl
theorem e_X10_feed_78 : lk t_X10_feed 78 = some (.aload_n 0, 79, 0, [], .returned) := rfl
theorem e_X10_feed_79 : lk t_X10_feed 79 = some (.getfield 13, 82, 10, [3, 2], .returned) := rfl
theorem e_X10_feed_82 : lk t_X10_feed 82 = some (.aload_n 0, 83, 0, [], .returned) := rfl
theorem e_X10_feed_83 : lk t_X10_feed 83 = some (.getfield 136, 86, 10, [4, 0], .returned) := rfl
theorem e_X10_feed_86 : lk t_X10_feed 86 = some (.iload 7, 88, 7, [], .returned) := rfl
theorem e_X10_feed_88 : lk t_X10_feed 88 = some (.bipush 24, 90, 0, [], .constant "" 0 (24)) := rfl
theorem e_X10_feed_90 : lk t_X10_feed 90 = some (.bipush 8, 92, 0, [], .constant "" 0 (8)) := rfl
theorem e_X10_feed_92 : lk t_X10_feed 92 = some (.iload 6, 94, 6, [], .returned) := rfl
theorem e_X10_feed_94 : lk t_X10_feed 94 = some (.iconst 4, 95, 0, [], .constant "" 0 (4)) := rfl
theorem e_X10_feed_95 : lk t_X10_feed 95 = some (.irem, 96, 0, [], .returned) := rfl
theorem e_X10_feed_96 : lk t_X10_feed 96 = some (.imul, 97, 0, [], .returned) := rfl
theorem e_X10_feed_97 : lk t_X10_feed 97 = some (.isub, 98, 0, [], .returned) := rfl
theorem e_X10_feed_98 : lk t_X10_feed 98 = some (.ishr, 99, 0, [], .returned) := rfl
theorem e_X10_feed_99 : lk t_X10_feed 99 = some (.i2b, 100, 0, [], .returned) := rfl
theorem e_X10_feed_100 : lk t_X10_feed 100 = some (.bastore, 101, 0, [], .returned) := rfl
theorem e_X10_feed_101 : lk t_X10_feed 101 = some (.aload_n 0, 102, 0, [], .returned) := rfl
theorem e_X10_feed_102 : lk t_X10_feed 102 = some (.dup, 103, 0, [], .returned) := rfl
theorem e_X10_feed_103 : lk t_X10_feed 103 = some (.getfield 136, 106, 10, [4, 0], .returned) := rfl
theorem e_X10_feed_106 : lk t_X10_feed 106 = some (.iconst 1, 107, 0, [], .constant "" 0 (1)) := rfl
theorem e_X10_feed_107 : lk t_X10_feed 107 = some (.iadd, 108, 0, [], .returned) := rfl
theorem e_X10_feed_108 : lk t_X10_feed 108 = some (.putfield 136, 111, 10, [4, 0], .returned) := rfl
theorem e_X10_feed_111 : lk t_X10_feed 111 = some (.iinc 6 1, 114, 6, [], .constant "" 0 (1)) := rfl
theorem e_X10_feed_114 : lk t_X10_feed 114 = some (.goto (-91), 117, 23, [], .returned) := rfl
theorem e_X10_feed_117 : lk t_X10_feed 117 = some (.aload_n 0, 118, 0, [], .returned) := rfl
theorem e_X10_feed_118 : lk t_X10_feed 118 = some (.getfield 136, 121, 10, [4, 0], .returned) := rfl
theorem e_X10_feed_121 : lk t_X10_feed 121 = some (.ireturn, 122, 0, [], .returned) := rfl
abbrev q_X10_readAll : MI := (yX10_readAll, cX10_readAll, 2, none)
def t_X10_readAll : Tab := [(0, [], (.iconst 0, 1, 0, [], .constant "" 0 (0))),
  (1, [], (.istore_n 1, 2, 1, [], .returned)),
  (2, [], (.iload_n 1, 3, 1, [], .returned)),
  (3, [], (.bipush 87, 5, 0, [], .constant "" 0 (87))),
  (5, [], (.if_icmp .ge 16, 8, 21, [], .returned)),
  (8, [], (.aload_n 0, 9, 0, [], .returned)),
  (9, [1062], (.getfield 21, 12, 10, [13, 2], .returned)),
  (12, [], (.iload_n 1, 13, 1, [], .returned)),
  (13, [], (.iconst 0, 14, 0, [], .constant "" 0 (0))),
  (14, [], (.iastore, 15, 0, [], .returned)),
  (15, [], (.iinc 1 1, 18, 1, [], .constant "" 0 (1))),
  (18, [], (.goto (-16), 21, 2, [], .returned)),
  (21, [], (.aload_n 0, 22, 0, [], .returned)),
  (22, [], (.iconst 0, 23, 0, [], .constant "" 0 (0))),
  (23, [1065], (.putfield 139, 26, 10, [16, 3], .returned)),
  (26, [], (.aload_n 0, 27, 0, [], .returned)),
  (27, [1166, 1169, 1168, 37, 102], (.invokevirtual 125, 30, 0, [0, 10, 0, 0], .code yX10_goOn cX10_goOn 2 none)),
  (30, [], (.aload_n 0, 31, 0, [], .returned)),
  (31, [1185, 1188, 1187, 41, 102], (.invokevirtual 143, 34, 0, [0, 10, 0, 0], .code yX10_readLine cX10_readLine 1 none)),
  (34, [], (.aload_n 0, 35, 0, [], .returned)),
  (35, [1056], (.getfield 87, 38, 10, [7, 0], .returned)),
  (38, [], (.iconst 4, 39, 0, [], .constant "" 0 (4))),
  (39, [], (.if_icmp .ne 14, 42, 53, [], .returned)),
  (42, [], (.aload_n 0, 43, 0, [], .returned)),
  (43, [1166, 1169, 1168, 37, 102], (.invokevirtual 125, 46, 0, [0, 10, 0, 0], .code yX10_goOn cX10_goOn 2 none)),
  (46, [], (.aload_n 0, 47, 0, [], .returned)),
  (47, [1185, 1188, 1187, 41, 102], (.invokevirtual 143, 50, 0, [0, 10, 0, 0], .code yX10_readLine cX10_readLine 1 none)),
  (50, [], (.goto (-16), 53, 34, [], .returned)),
  (53, [], (.aload_n 0, 54, 0, [], .returned)),
  (54, [1056], (.getfield 87, 57, 10, [7, 0], .returned)),
  (57, [], (.iconst 1, 58, 0, [], .constant "" 0 (1))),
  (58, [], (.if_icmp .eq 8, 61, 66, [], .returned)),
  (61, [], (.aload_n 0, 62, 0, [], .returned)),
  (62, [], (.iconst 1, 63, 0, [], .constant "" 0 (1))),
  (63, [1246, 1249, 1248, 44, 102], (.invokevirtual 121, 66, 0, [1, 10, 0, 0], .code yX10_flaw cX10_flaw 2 none)),
  (66, [], (.aload_n 0, 67, 0, [], .returned)),
  (67, [1059], (.getfield 74, 70, 10, [10, 0], .returned)),
  (70, [], (.ifCond .ne 18, 73, 88, [], .returned)),
  (73, [], (.aload_n 0, 74, 0, [], .returned)),
  (74, [1062], (.getfield 21, 77, 10, [13, 2], .returned)),
  (77, [], (.iconst 4, 78, 0, [], .constant "" 0 (4))),
  (78, [], (.iaload, 79, 0, [], .returned)),
  (79, [], (.ifCond .ne 9, 82, 88, [], .returned)),
  (82, [], (.aload_n 0, 83, 0, [], .returned)),
  (83, [], (.bipush 6, 85, 0, [], .constant "" 0 (6))),
  (85, [1246, 1249, 1248, 44, 102], (.invokevirtual 121, 88, 0, [1, 10, 0, 0], .code yX10_flaw cX10_flaw 2 none)),
  (88, [], (.return_, 89, 0, [], .returned))]
theorem ck_X10_readAll : okT q_X10_readAll t_X10_readAll = true := by decide +kernel
theorem e_X10_readAll_0 : lk t_X10_readAll 0 = some (.iconst 0, 1, 0, [], .constant "" 0 (0)) := rfl
theorem e_X10_readAll_1 : lk t_X10_readAll 1 = some (.istore_n 1, 2, 1, [], .returned) := rfl
theorem e_X10_readAll_2 : lk t_X10_readAll 2 = some (.iload_n 1, 3, 1, [], .returned) := rfl
theorem e_X10_readAll_3 : lk t_X10_readAll 3 = some (.bipush 87, 5, 0, [], .constant "" 0 (87)) := rfl
theorem e_X10_readAll_5 : lk t_X10_readAll 5 = some (.if_icmp .ge 16, 8, 21, [], .returned) := rfl
theorem e_X10_readAll_8 : lk t_X10_readAll 8 = some (.aload_n 0, 9, 0, [], .returned) := rfl
theorem e_X10_readAll_9 : lk t_X10_readAll 9 = some (.getfield 21, 12, 10, [13, 2], .returned) := rfl
theorem e_X10_readAll_12 : lk t_X10_readAll 12 = some (.iload_n 1, 13, 1, [], .returned) := rfl
theorem e_X10_readAll_13 : lk t_X10_readAll 13 = some (.iconst 0, 14, 0, [], .constant "" 0 (0)) := rfl
theorem e_X10_readAll_14 : lk t_X10_readAll 14 = some (.iastore, 15, 0, [], .returned) := rfl
theorem e_X10_readAll_15 : lk t_X10_readAll 15 = some (.iinc 1 1, 18, 1, [], .constant "" 0 (1)) := rfl
theorem e_X10_readAll_18 : lk t_X10_readAll 18 = some (.goto (-16), 21, 2, [], .returned) := rfl
theorem e_X10_readAll_21 : lk t_X10_readAll 21 = some (.aload_n 0, 22, 0, [], .returned) := rfl
theorem e_X10_readAll_22 : lk t_X10_readAll 22 = some (.iconst 0, 23, 0, [], .constant "" 0 (0)) := rfl
theorem e_X10_readAll_23 : lk t_X10_readAll 23 = some (.putfield 139, 26, 10, [16, 3], .returned) := rfl
theorem e_X10_readAll_26 : lk t_X10_readAll 26 = some (.aload_n 0, 27, 0, [], .returned) := rfl
theorem e_X10_readAll_27 : lk t_X10_readAll 27 = some (.invokevirtual 125, 30, 0, [0, 10, 0, 0], .code yX10_goOn cX10_goOn 2 none) := rfl
theorem e_X10_readAll_30 : lk t_X10_readAll 30 = some (.aload_n 0, 31, 0, [], .returned) := rfl
theorem e_X10_readAll_31 : lk t_X10_readAll 31 = some (.invokevirtual 143, 34, 0, [0, 10, 0, 0], .code yX10_readLine cX10_readLine 1 none) := rfl
theorem e_X10_readAll_34 : lk t_X10_readAll 34 = some (.aload_n 0, 35, 0, [], .returned) := rfl
theorem e_X10_readAll_35 : lk t_X10_readAll 35 = some (.getfield 87, 38, 10, [7, 0], .returned) := rfl
theorem e_X10_readAll_38 : lk t_X10_readAll 38 = some (.iconst 4, 39, 0, [], .constant "" 0 (4)) := rfl
theorem e_X10_readAll_39 : lk t_X10_readAll 39 = some (.if_icmp .ne 14, 42, 53, [], .returned) := rfl
theorem e_X10_readAll_42 : lk t_X10_readAll 42 = some (.aload_n 0, 43, 0, [], .returned) := rfl
theorem e_X10_readAll_43 : lk t_X10_readAll 43 = some (.invokevirtual 125, 46, 0, [0, 10, 0, 0], .code yX10_goOn cX10_goOn 2 none) := rfl
theorem e_X10_readAll_46 : lk t_X10_readAll 46 = some (.aload_n 0, 47, 0, [], .returned) := rfl
theorem e_X10_readAll_47 : lk t_X10_readAll 47 = some (.invokevirtual 143, 50, 0, [0, 10, 0, 0], .code yX10_readLine cX10_readLine 1 none) := rfl
theorem e_X10_readAll_50 : lk t_X10_readAll 50 = some (.goto (-16), 53, 34, [], .returned) := rfl
theorem e_X10_readAll_53 : lk t_X10_readAll 53 = some (.aload_n 0, 54, 0, [], .returned) := rfl
theorem e_X10_readAll_54 : lk t_X10_readAll 54 = some (.getfield 87, 57, 10, [7, 0], .returned) := rfl
theorem e_X10_readAll_57 : lk t_X10_readAll 57 = some (.iconst 1, 58, 0, [], .constant "" 0 (1)) := rfl
theorem e_X10_readAll_58 : lk t_X10_readAll 58 = some (.if_icmp .eq 8, 61, 66, [], .returned) := rfl
theorem e_X10_readAll_61 : lk t_X10_readAll 61 = some (.aload_n 0, 62, 0, [], .returned) := rfl
theorem e_X10_readAll_62 : lk t_X10_readAll 62 = some (.iconst 1, 63, 0, [], .constant "" 0 (1)) := rfl
theorem e_X10_readAll_63 : lk t_X10_readAll 63 = some (.invokevirtual 121, 66, 0, [1, 10, 0, 0], .code yX10_flaw cX10_flaw 2 none) := rfl
theorem e_X10_readAll_66 : lk t_X10_readAll 66 = some (.aload_n 0, 67, 0, [], .returned) := rfl
theorem e_X10_readAll_67 : lk t_X10_readAll 67 = some (.getfield 74, 70, 10, [10, 0], .returned) := rfl
theorem e_X10_readAll_70 : lk t_X10_readAll 70 = some (.ifCond .ne 18, 73, 88, [], .returned) := rfl
theorem e_X10_readAll_73 : lk t_X10_readAll 73 = some (.aload_n 0, 74, 0, [], .returned) := rfl
theorem e_X10_readAll_74 : lk t_X10_readAll 74 = some (.getfield 21, 77, 10, [13, 2], .returned) := rfl
theorem e_X10_readAll_77 : lk t_X10_readAll 77 = some (.iconst 4, 78, 0, [], .constant "" 0 (4)) := rfl
theorem e_X10_readAll_78 : lk t_X10_readAll 78 = some (.iaload, 79, 0, [], .returned) := rfl
theorem e_X10_readAll_79 : lk t_X10_readAll 79 = some (.ifCond .ne 9, 82, 88, [], .returned) := rfl
theorem e_X10_readAll_82 : lk t_X10_readAll 82 = some (.aload_n 0, 83, 0, [], .returned) := rfl
theorem e_X10_readAll_83 : lk t_X10_readAll 83 = some (.bipush 6, 85, 0, [], .constant "" 0 (6)) := rfl
theorem e_X10_readAll_85 : lk t_X10_readAll 85 = some (.invokevirtual 121, 88, 0, [1, 10, 0, 0], .code yX10_flaw cX10_flaw 2 none) := rfl
theorem e_X10_readAll_88 : lk t_X10_readAll 88 = some (.return_, 89, 0, [], .returned) := rfl
abbrev q_X10_readLine : MI := (yX10_readLine, cX10_readLine, 1, none)
def t_X10_readLine : Tab := [(0, [], (.aload_n 0, 1, 0, [], .returned)),
  (1, [], (.ldc 146, 3, 2, [], .returned)),
  (3, [1190, 1193, 1192, 42, 102], (.invokevirtual 117, 6, 0, [1, 10, 0, 0], .code yX10_isWord cX10_isWord 5 (some .boolean))),
  (6, [], (.ifCond .eq 10, 9, 16, [], .returned)),
  (9, [], (.aload_n 0, 10, 0, [], .returned)),
  (10, [1242, 1245, 1244, 43, 102], (.invokevirtual 148, 13, 0, [0, 10, 0, 0], .code yX10_readDesk cX10_readDesk 1 none)),
  (13, [], (.goto 56, 16, 69, [], .returned)),
  (16, [], (.aload_n 0, 17, 0, [], .returned)),
  (17, [], (.ldc 151, 19, 8, [], .returned)),
  (19, [1190, 1193, 1192, 42, 102], (.invokevirtual 117, 22, 0, [1, 10, 0, 0], .code yX10_isWord cX10_isWord 5 (some .boolean))),
  (22, [], (.ifCond .eq 10, 25, 32, [], .returned)),
  (25, [], (.aload_n 0, 26, 0, [], .returned)),
  (26, [1272, 1275, 1274, 49, 102], (.invokevirtual 153, 29, 0, [0, 10, 0, 0], .code yX10_readTable cX10_readTable 6 none)),
  (29, [], (.goto 40, 32, 69, [], .returned)),
  (32, [], (.aload_n 0, 33, 0, [], .returned)),
  (33, [], (.ldc 156, 35, 9, [], .returned)),
  (35, [1190, 1193, 1192, 42, 102], (.invokevirtual 117, 38, 0, [1, 10, 0, 0], .code yX10_isWord cX10_isWord 5 (some .boolean))),
  (38, [], (.ifCond .eq 10, 41, 48, [], .returned)),
  (41, [], (.aload_n 0, 42, 0, [], .returned)),
  (42, [1294, 1297, 1296, 53, 102], (.invokevirtual 158, 45, 0, [0, 10, 0, 0], .code yX10_readPayer cX10_readPayer 2 none)),
  (45, [], (.goto 24, 48, 69, [], .returned)),
  (48, [], (.aload_n 0, 49, 0, [], .returned)),
  (49, [], (.ldc 161, 51, 10, [], .returned)),
  (51, [1190, 1193, 1192, 42, 102], (.invokevirtual 117, 54, 0, [1, 10, 0, 0], .code yX10_isWord cX10_isWord 5 (some .boolean))),
  (54, [], (.ifCond .eq 10, 57, 64, [], .returned)),
  (57, [], (.aload_n 0, 58, 0, [], .returned)),
  (58, [1299, 1302, 1301, 54, 102], (.invokevirtual 163, 61, 0, [0, 10, 0, 0], .code yX10_readOrder cX10_readOrder 3 none)),
  (61, [], (.goto 8, 64, 69, [], .returned)),
  (64, [], (.aload_n 0, 65, 0, [], .returned)),
  (65, [], (.iconst 1, 66, 0, [], .constant "" 0 (1))),
  (66, [1246, 1249, 1248, 44, 102], (.invokevirtual 121, 69, 0, [1, 10, 0, 0], .code yX10_flaw cX10_flaw 2 none)),
  (69, [], (.return_, 70, 0, [], .returned))]
theorem ck_X10_readLine : okT q_X10_readLine t_X10_readLine = true := by decide +kernel
theorem e_X10_readLine_0 : lk t_X10_readLine 0 = some (.aload_n 0, 1, 0, [], .returned) := rfl
theorem e_X10_readLine_1 : lk t_X10_readLine 1 = some (.ldc 146, 3, 2, [], .returned) := rfl
theorem e_X10_readLine_3 : lk t_X10_readLine 3 = some (.invokevirtual 117, 6, 0, [1, 10, 0, 0], .code yX10_isWord cX10_isWord 5 (some .boolean)) := rfl
theorem e_X10_readLine_6 : lk t_X10_readLine 6 = some (.ifCond .eq 10, 9, 16, [], .returned) := rfl
theorem e_X10_readLine_9 : lk t_X10_readLine 9 = some (.aload_n 0, 10, 0, [], .returned) := rfl
theorem e_X10_readLine_10 : lk t_X10_readLine 10 = some (.invokevirtual 148, 13, 0, [0, 10, 0, 0], .code yX10_readDesk cX10_readDesk 1 none) := rfl
theorem e_X10_readLine_13 : lk t_X10_readLine 13 = some (.goto 56, 16, 69, [], .returned) := rfl
theorem e_X10_readLine_16 : lk t_X10_readLine 16 = some (.aload_n 0, 17, 0, [], .returned) := rfl
theorem e_X10_readLine_17 : lk t_X10_readLine 17 = some (.ldc 151, 19, 8, [], .returned) := rfl
theorem e_X10_readLine_19 : lk t_X10_readLine 19 = some (.invokevirtual 117, 22, 0, [1, 10, 0, 0], .code yX10_isWord cX10_isWord 5 (some .boolean)) := rfl
theorem e_X10_readLine_22 : lk t_X10_readLine 22 = some (.ifCond .eq 10, 25, 32, [], .returned) := rfl
theorem e_X10_readLine_25 : lk t_X10_readLine 25 = some (.aload_n 0, 26, 0, [], .returned) := rfl
theorem e_X10_readLine_26 : lk t_X10_readLine 26 = some (.invokevirtual 153, 29, 0, [0, 10, 0, 0], .code yX10_readTable cX10_readTable 6 none) := rfl
theorem e_X10_readLine_29 : lk t_X10_readLine 29 = some (.goto 40, 32, 69, [], .returned) := rfl
theorem e_X10_readLine_32 : lk t_X10_readLine 32 = some (.aload_n 0, 33, 0, [], .returned) := rfl
theorem e_X10_readLine_33 : lk t_X10_readLine 33 = some (.ldc 156, 35, 9, [], .returned) := rfl
theorem e_X10_readLine_35 : lk t_X10_readLine 35 = some (.invokevirtual 117, 38, 0, [1, 10, 0, 0], .code yX10_isWord cX10_isWord 5 (some .boolean)) := rfl
theorem e_X10_readLine_38 : lk t_X10_readLine 38 = some (.ifCond .eq 10, 41, 48, [], .returned) := rfl
theorem e_X10_readLine_41 : lk t_X10_readLine 41 = some (.aload_n 0, 42, 0, [], .returned) := rfl
theorem e_X10_readLine_42 : lk t_X10_readLine 42 = some (.invokevirtual 158, 45, 0, [0, 10, 0, 0], .code yX10_readPayer cX10_readPayer 2 none) := rfl
theorem e_X10_readLine_45 : lk t_X10_readLine 45 = some (.goto 24, 48, 69, [], .returned) := rfl
theorem e_X10_readLine_48 : lk t_X10_readLine 48 = some (.aload_n 0, 49, 0, [], .returned) := rfl
theorem e_X10_readLine_49 : lk t_X10_readLine 49 = some (.ldc 161, 51, 10, [], .returned) := rfl
theorem e_X10_readLine_51 : lk t_X10_readLine 51 = some (.invokevirtual 117, 54, 0, [1, 10, 0, 0], .code yX10_isWord cX10_isWord 5 (some .boolean)) := rfl
theorem e_X10_readLine_54 : lk t_X10_readLine 54 = some (.ifCond .eq 10, 57, 64, [], .returned) := rfl
theorem e_X10_readLine_57 : lk t_X10_readLine 57 = some (.aload_n 0, 58, 0, [], .returned) := rfl
theorem e_X10_readLine_58 : lk t_X10_readLine 58 = some (.invokevirtual 163, 61, 0, [0, 10, 0, 0], .code yX10_readOrder cX10_readOrder 3 none) := rfl
theorem e_X10_readLine_61 : lk t_X10_readLine 61 = some (.goto 8, 64, 69, [], .returned) := rfl
theorem e_X10_readLine_64 : lk t_X10_readLine 64 = some (.aload_n 0, 65, 0, [], .returned) := rfl
theorem e_X10_readLine_65 : lk t_X10_readLine 65 = some (.iconst 1, 66, 0, [], .constant "" 0 (1)) := rfl
theorem e_X10_readLine_66 : lk t_X10_readLine 66 = some (.invokevirtual 121, 69, 0, [1, 10, 0, 0], .code yX10_flaw cX10_flaw 2 none) := rfl
theorem e_X10_readLine_69 : lk t_X10_readLine 69 = some (.return_, 70, 0, [], .returned) := rfl
abbrev q_X10_readHow : MI := (yX10_readHow, cX10_readHow, 4, (some .boolean))
def t_X10_readHow : Tab := [(0, [], (.aload_n 0, 1, 0, [], .returned)),
  (1, [], (.aload_n 1, 2, 1, [], .returned)),
  (2, [1190, 1193, 1192, 42, 102], (.invokevirtual 117, 5, 0, [1, 10, 0, 0], .code yX10_isWord cX10_isWord 5 (some .boolean))),
  (5, [], (.istore_n 3, 6, 3, [], .returned)),
  (6, [], (.iload_n 3, 7, 3, [], .returned)),
  (7, [], (.ifCond .ne 16, 10, 23, [], .returned)),
  (10, [], (.aload_n 0, 11, 0, [], .returned)),
  (11, [], (.aload_n 2, 12, 2, [], .returned)),
  (12, [1190, 1193, 1192, 42, 102], (.invokevirtual 117, 15, 0, [1, 10, 0, 0], .code yX10_isWord cX10_isWord 5 (some .boolean))),
  (15, [], (.ifCond .ne 8, 18, 23, [], .returned)),
  (18, [], (.aload_n 0, 19, 0, [], .returned)),
  (19, [], (.iconst 1, 20, 0, [], .constant "" 0 (1))),
  (20, [1246, 1249, 1248, 44, 102], (.invokevirtual 121, 23, 0, [1, 10, 0, 0], .code yX10_flaw cX10_flaw 2 none)),
  (23, [], (.aload_n 0, 24, 0, [], .returned)),
  (24, [1166, 1169, 1168, 37, 102], (.invokevirtual 125, 27, 0, [0, 10, 0, 0], .code yX10_goOn cX10_goOn 2 none)),
  (27, [], (.iload_n 3, 28, 3, [], .returned)),
  (28, [], (.ireturn, 29, 1, [], .returned))]
theorem ck_X10_readHow : okT q_X10_readHow t_X10_readHow = true := by decide +kernel
theorem e_X10_readHow_0 : lk t_X10_readHow 0 = some (.aload_n 0, 1, 0, [], .returned) := rfl
theorem e_X10_readHow_1 : lk t_X10_readHow 1 = some (.aload_n 1, 2, 1, [], .returned) := rfl
theorem e_X10_readHow_2 : lk t_X10_readHow 2 = some (.invokevirtual 117, 5, 0, [1, 10, 0, 0], .code yX10_isWord cX10_isWord 5 (some .boolean)) := rfl
theorem e_X10_readHow_5 : lk t_X10_readHow 5 = some (.istore_n 3, 6, 3, [], .returned) := rfl
theorem e_X10_readHow_6 : lk t_X10_readHow 6 = some (.iload_n 3, 7, 3, [], .returned) := rfl
theorem e_X10_readHow_7 : lk t_X10_readHow 7 = some (.ifCond .ne 16, 10, 23, [], .returned) := rfl
theorem e_X10_readHow_10 : lk t_X10_readHow 10 = some (.aload_n 0, 11, 0, [], .returned) := rfl
theorem e_X10_readHow_11 : lk t_X10_readHow 11 = some (.aload_n 2, 12, 2, [], .returned) := rfl
theorem e_X10_readHow_12 : lk t_X10_readHow 12 = some (.invokevirtual 117, 15, 0, [1, 10, 0, 0], .code yX10_isWord cX10_isWord 5 (some .boolean)) := rfl
theorem e_X10_readHow_15 : lk t_X10_readHow 15 = some (.ifCond .ne 8, 18, 23, [], .returned) := rfl
theorem e_X10_readHow_18 : lk t_X10_readHow 18 = some (.aload_n 0, 19, 0, [], .returned) := rfl
theorem e_X10_readHow_19 : lk t_X10_readHow 19 = some (.iconst 1, 20, 0, [], .constant "" 0 (1)) := rfl
theorem e_X10_readHow_20 : lk t_X10_readHow 20 = some (.invokevirtual 121, 23, 0, [1, 10, 0, 0], .code yX10_flaw cX10_flaw 2 none) := rfl
theorem e_X10_readHow_23 : lk t_X10_readHow 23 = some (.aload_n 0, 24, 0, [], .returned) := rfl
theorem e_X10_readHow_24 : lk t_X10_readHow 24 = some (.invokevirtual 125, 27, 0, [0, 10, 0, 0], .code yX10_goOn cX10_goOn 2 none) := rfl
theorem e_X10_readHow_27 : lk t_X10_readHow 27 = some (.iload_n 3, 28, 3, [], .returned) := rfl
theorem e_X10_readHow_28 : lk t_X10_readHow 28 = some (.ireturn, 29, 1, [], .returned) := rfl
abbrev q_X10_readDesk : MI := (yX10_readDesk, cX10_readDesk, 1, none)
def t_X10_readDesk : Tab := [(0, [], (.aload_n 0, 1, 0, [], .returned)),
  (1, [1065], (.getfield 139, 4, 10, [16, 0], .returned)),
  (4, [], (.ifCond .eq 8, 7, 12, [], .returned)),
  (7, [], (.aload_n 0, 8, 0, [], .returned)),
  (8, [], (.iconst 4, 9, 0, [], .constant "" 0 (4))),
  (9, [1246, 1249, 1248, 44, 102], (.invokevirtual 121, 12, 0, [1, 10, 0, 0], .code yX10_flaw cX10_flaw 2 none)),
  (12, [], (.aload_n 0, 13, 0, [], .returned)),
  (13, [1166, 1169, 1168, 37, 102], (.invokevirtual 125, 16, 0, [0, 10, 0, 0], .code yX10_goOn cX10_goOn 2 none)),
  (16, [], (.aload_n 0, 17, 0, [], .returned)),
  (17, [1062], (.getfield 21, 20, 10, [13, 2], .returned)),
  (20, [], (.iconst 0, 21, 0, [], .constant "" 0 (0))),
  (21, [], (.aload_n 0, 22, 0, [], .returned)),
  (22, [], (.ldc 166, 24, 3, [], .returned)),
  (24, [], (.iconst 0, 25, 0, [], .constant "" 0 (0))),
  (25, [], (.sipush 999, 28, 0, [], .constant "" 0 (999))),
  (28, [1251, 1254, 1253, 45, 102], (.invokevirtual 168, 31, 0, [3, 10, 0, 0], .code yX10_readPart cX10_readPart 4 (some .int))),
  (31, [], (.iastore, 32, 0, [], .returned)),
  (32, [], (.aload_n 0, 33, 0, [], .returned)),
  (33, [1062], (.getfield 21, 36, 10, [13, 2], .returned)),
  (36, [], (.iconst 1, 37, 0, [], .constant "" 0 (1))),
  (37, [], (.aload_n 0, 38, 0, [], .returned)),
  (38, [], (.ldc 172, 40, 4, [], .returned)),
  (40, [], (.iconst 0, 41, 0, [], .constant "" 0 (0))),
  (41, [], (.bipush 99, 43, 0, [], .constant "" 0 (99))),
  (43, [1251, 1254, 1253, 45, 102], (.invokevirtual 168, 46, 0, [3, 10, 0, 0], .code yX10_readPart cX10_readPart 4 (some .int))),
  (46, [], (.iastore, 47, 0, [], .returned)),
  (47, [], (.aload_n 0, 48, 0, [], .returned)),
  (48, [], (.ldc 174, 50, 5, [], .returned)),
  (50, [1255, 1258, 1257, 46, 102], (.invokevirtual 128, 53, 0, [1, 10, 0, 0], .code yX10_needs cX10_needs 2 none)),
  (53, [], (.aload_n 0, 54, 0, [], .returned)),
  (54, [1062], (.getfield 21, 57, 10, [13, 2], .returned)),
  (57, [], (.iconst 2, 58, 0, [], .constant "" 0 (2))),
  (58, [], (.aload_n 0, 59, 0, [], .returned)),
  (59, [], (.ldc 176, 61, 6, [], .returned)),
  (61, [], (.ldc 178, 63, 7, [], .returned)),
  (63, [1267, 1270, 1269, 48, 102], (.invokevirtual 180, 66, 0, [2, 10, 0, 0], .code yX10_readHow cX10_readHow 4 (some .boolean))),
  (66, [], (.ifCond .eq 7, 69, 73, [], .returned)),
  (69, [], (.iconst 1, 70, 0, [], .constant "" 0 (1))),
  (70, [], (.goto 4, 73, 74, [], .returned)),
  (73, [], (.iconst 0, 74, 0, [], .constant "" 0 (0))),
  (74, [], (.iastore, 75, 0, [], .returned)),
  (75, [], (.aload_n 0, 76, 0, [], .returned)),
  (76, [1059], (.getfield 74, 79, 10, [10, 0], .returned)),
  (79, [], (.ifCond .ne 8, 82, 87, [], .returned)),
  (82, [], (.aload_n 0, 83, 0, [], .returned)),
  (83, [], (.iconst 1, 84, 0, [], .constant "" 0 (1))),
  (84, [1065], (.putfield 139, 87, 10, [16, 3], .returned)),
  (87, [], (.return_, 88, 0, [], .returned))]
theorem ck_X10_readDesk : okT q_X10_readDesk t_X10_readDesk = true := by decide +kernel
theorem e_X10_readDesk_0 : lk t_X10_readDesk 0 = some (.aload_n 0, 1, 0, [], .returned) := rfl
theorem e_X10_readDesk_1 : lk t_X10_readDesk 1 = some (.getfield 139, 4, 10, [16, 0], .returned) := rfl
theorem e_X10_readDesk_4 : lk t_X10_readDesk 4 = some (.ifCond .eq 8, 7, 12, [], .returned) := rfl
theorem e_X10_readDesk_7 : lk t_X10_readDesk 7 = some (.aload_n 0, 8, 0, [], .returned) := rfl
theorem e_X10_readDesk_8 : lk t_X10_readDesk 8 = some (.iconst 4, 9, 0, [], .constant "" 0 (4)) := rfl
theorem e_X10_readDesk_9 : lk t_X10_readDesk 9 = some (.invokevirtual 121, 12, 0, [1, 10, 0, 0], .code yX10_flaw cX10_flaw 2 none) := rfl
theorem e_X10_readDesk_12 : lk t_X10_readDesk 12 = some (.aload_n 0, 13, 0, [], .returned) := rfl
theorem e_X10_readDesk_13 : lk t_X10_readDesk 13 = some (.invokevirtual 125, 16, 0, [0, 10, 0, 0], .code yX10_goOn cX10_goOn 2 none) := rfl
theorem e_X10_readDesk_16 : lk t_X10_readDesk 16 = some (.aload_n 0, 17, 0, [], .returned) := rfl
theorem e_X10_readDesk_17 : lk t_X10_readDesk 17 = some (.getfield 21, 20, 10, [13, 2], .returned) := rfl
theorem e_X10_readDesk_20 : lk t_X10_readDesk 20 = some (.iconst 0, 21, 0, [], .constant "" 0 (0)) := rfl
theorem e_X10_readDesk_21 : lk t_X10_readDesk 21 = some (.aload_n 0, 22, 0, [], .returned) := rfl
theorem e_X10_readDesk_22 : lk t_X10_readDesk 22 = some (.ldc 166, 24, 3, [], .returned) := rfl
theorem e_X10_readDesk_24 : lk t_X10_readDesk 24 = some (.iconst 0, 25, 0, [], .constant "" 0 (0)) := rfl
theorem e_X10_readDesk_25 : lk t_X10_readDesk 25 = some (.sipush 999, 28, 0, [], .constant "" 0 (999)) := rfl
theorem e_X10_readDesk_28 : lk t_X10_readDesk 28 = some (.invokevirtual 168, 31, 0, [3, 10, 0, 0], .code yX10_readPart cX10_readPart 4 (some .int)) := rfl
theorem e_X10_readDesk_31 : lk t_X10_readDesk 31 = some (.iastore, 32, 0, [], .returned) := rfl
theorem e_X10_readDesk_32 : lk t_X10_readDesk 32 = some (.aload_n 0, 33, 0, [], .returned) := rfl
theorem e_X10_readDesk_33 : lk t_X10_readDesk 33 = some (.getfield 21, 36, 10, [13, 2], .returned) := rfl
theorem e_X10_readDesk_36 : lk t_X10_readDesk 36 = some (.iconst 1, 37, 0, [], .constant "" 0 (1)) := rfl
theorem e_X10_readDesk_37 : lk t_X10_readDesk 37 = some (.aload_n 0, 38, 0, [], .returned) := rfl
theorem e_X10_readDesk_38 : lk t_X10_readDesk 38 = some (.ldc 172, 40, 4, [], .returned) := rfl
theorem e_X10_readDesk_40 : lk t_X10_readDesk 40 = some (.iconst 0, 41, 0, [], .constant "" 0 (0)) := rfl
theorem e_X10_readDesk_41 : lk t_X10_readDesk 41 = some (.bipush 99, 43, 0, [], .constant "" 0 (99)) := rfl
theorem e_X10_readDesk_43 : lk t_X10_readDesk 43 = some (.invokevirtual 168, 46, 0, [3, 10, 0, 0], .code yX10_readPart cX10_readPart 4 (some .int)) := rfl
theorem e_X10_readDesk_46 : lk t_X10_readDesk 46 = some (.iastore, 47, 0, [], .returned) := rfl
theorem e_X10_readDesk_47 : lk t_X10_readDesk 47 = some (.aload_n 0, 48, 0, [], .returned) := rfl
theorem e_X10_readDesk_48 : lk t_X10_readDesk 48 = some (.ldc 174, 50, 5, [], .returned) := rfl
theorem e_X10_readDesk_50 : lk t_X10_readDesk 50 = some (.invokevirtual 128, 53, 0, [1, 10, 0, 0], .code yX10_needs cX10_needs 2 none) := rfl
theorem e_X10_readDesk_53 : lk t_X10_readDesk 53 = some (.aload_n 0, 54, 0, [], .returned) := rfl
theorem e_X10_readDesk_54 : lk t_X10_readDesk 54 = some (.getfield 21, 57, 10, [13, 2], .returned) := rfl
theorem e_X10_readDesk_57 : lk t_X10_readDesk 57 = some (.iconst 2, 58, 0, [], .constant "" 0 (2)) := rfl
theorem e_X10_readDesk_58 : lk t_X10_readDesk 58 = some (.aload_n 0, 59, 0, [], .returned) := rfl
theorem e_X10_readDesk_59 : lk t_X10_readDesk 59 = some (.ldc 176, 61, 6, [], .returned) := rfl
theorem e_X10_readDesk_61 : lk t_X10_readDesk 61 = some (.ldc 178, 63, 7, [], .returned) := rfl
theorem e_X10_readDesk_63 : lk t_X10_readDesk 63 = some (.invokevirtual 180, 66, 0, [2, 10, 0, 0], .code yX10_readHow cX10_readHow 4 (some .boolean)) := rfl
theorem e_X10_readDesk_66 : lk t_X10_readDesk 66 = some (.ifCond .eq 7, 69, 73, [], .returned) := rfl
theorem e_X10_readDesk_69 : lk t_X10_readDesk 69 = some (.iconst 1, 70, 0, [], .constant "" 0 (1)) := rfl
theorem e_X10_readDesk_70 : lk t_X10_readDesk 70 = some (.goto 4, 73, 74, [], .returned) := rfl
theorem e_X10_readDesk_73 : lk t_X10_readDesk 73 = some (.iconst 0, 74, 0, [], .constant "" 0 (0)) := rfl
theorem e_X10_readDesk_74 : lk t_X10_readDesk 74 = some (.iastore, 75, 0, [], .returned) := rfl
theorem e_X10_readDesk_75 : lk t_X10_readDesk 75 = some (.aload_n 0, 76, 0, [], .returned) := rfl
theorem e_X10_readDesk_76 : lk t_X10_readDesk 76 = some (.getfield 74, 79, 10, [10, 0], .returned) := rfl
theorem e_X10_readDesk_79 : lk t_X10_readDesk 79 = some (.ifCond .ne 8, 82, 87, [], .returned) := rfl
theorem e_X10_readDesk_82 : lk t_X10_readDesk 82 = some (.aload_n 0, 83, 0, [], .returned) := rfl
theorem e_X10_readDesk_83 : lk t_X10_readDesk 83 = some (.iconst 1, 84, 0, [], .constant "" 0 (1)) := rfl
theorem e_X10_readDesk_84 : lk t_X10_readDesk 84 = some (.putfield 139, 87, 10, [16, 3], .returned) := rfl
theorem e_X10_readDesk_87 : lk t_X10_readDesk 87 = some (.return_, 88, 0, [], .returned) := rfl
abbrev q_X10_named : MI := (yX10_named, cX10_named, 4, (some .int))
def t_X10_named : Tab := [(0, [], (.iconst 0, 1, 0, [], .constant "" 0 (0))),
  (1, [], (.istore_n 3, 2, 3, [], .returned)),
  (2, [], (.iload_n 3, 3, 3, [], .returned)),
  (3, [], (.iload_n 2, 4, 2, [], .returned)),
  (4, [], (.if_icmp .ge 27, 7, 31, [], .returned)),
  (7, [], (.aload_n 0, 8, 0, [], .returned)),
  (8, [1063], (.getfield 24, 11, 10, [14, 2], .returned)),
  (11, [], (.iload_n 1, 12, 1, [], .returned)),
  (12, [], (.iload_n 3, 13, 3, [], .returned)),
  (13, [], (.iadd, 14, 0, [], .returned)),
  (14, [], (.laload, 15, 0, [], .returned)),
  (15, [], (.aload_n 0, 16, 0, [], .returned)),
  (16, [1060], (.getfield 100, 19, 10, [11, 1], .returned)),
  (19, [], (.lcmp, 20, 0, [], .returned)),
  (20, [], (.ifCond .ne 5, 23, 25, [], .returned)),
  (23, [], (.iload_n 3, 24, 3, [], .returned)),
  (24, [], (.ireturn, 25, 0, [], .returned)),
  (25, [], (.iinc 3 1, 28, 3, [], .constant "" 0 (1))),
  (28, [], (.goto (-26), 31, 2, [], .returned)),
  (31, [], (.iconst (-1), 32, 0, [], .constant "" 0 (-1))),
  (32, [], (.ireturn, 33, 0, [], .returned))]
theorem ck_X10_named : okT q_X10_named t_X10_named = true := by decide +kernel
theorem e_X10_named_0 : lk t_X10_named 0 = some (.iconst 0, 1, 0, [], .constant "" 0 (0)) := rfl
theorem e_X10_named_1 : lk t_X10_named 1 = some (.istore_n 3, 2, 3, [], .returned) := rfl
theorem e_X10_named_2 : lk t_X10_named 2 = some (.iload_n 3, 3, 3, [], .returned) := rfl
theorem e_X10_named_3 : lk t_X10_named 3 = some (.iload_n 2, 4, 2, [], .returned) := rfl
theorem e_X10_named_4 : lk t_X10_named 4 = some (.if_icmp .ge 27, 7, 31, [], .returned) := rfl
theorem e_X10_named_7 : lk t_X10_named 7 = some (.aload_n 0, 8, 0, [], .returned) := rfl
theorem e_X10_named_8 : lk t_X10_named 8 = some (.getfield 24, 11, 10, [14, 2], .returned) := rfl
theorem e_X10_named_11 : lk t_X10_named 11 = some (.iload_n 1, 12, 1, [], .returned) := rfl
theorem e_X10_named_12 : lk t_X10_named 12 = some (.iload_n 3, 13, 3, [], .returned) := rfl
theorem e_X10_named_13 : lk t_X10_named 13 = some (.iadd, 14, 0, [], .returned) := rfl
theorem e_X10_named_14 : lk t_X10_named 14 = some (.laload, 15, 0, [], .returned) := rfl
theorem e_X10_named_15 : lk t_X10_named 15 = some (.aload_n 0, 16, 0, [], .returned) := rfl
theorem e_X10_named_16 : lk t_X10_named 16 = some (.getfield 100, 19, 10, [11, 1], .returned) := rfl
theorem e_X10_named_19 : lk t_X10_named 19 = some (.lcmp, 20, 0, [], .returned) := rfl
theorem e_X10_named_20 : lk t_X10_named 20 = some (.ifCond .ne 5, 23, 25, [], .returned) := rfl
theorem e_X10_named_23 : lk t_X10_named 23 = some (.iload_n 3, 24, 3, [], .returned) := rfl
theorem e_X10_named_24 : lk t_X10_named 24 = some (.ireturn, 25, 0, [], .returned) := rfl
theorem e_X10_named_25 : lk t_X10_named 25 = some (.iinc 3 1, 28, 3, [], .constant "" 0 (1)) := rfl
theorem e_X10_named_28 : lk t_X10_named 28 = some (.goto (-26), 31, 2, [], .returned) := rfl
theorem e_X10_named_31 : lk t_X10_named 31 = some (.iconst (-1), 32, 0, [], .constant "" 0 (-1)) := rfl
theorem e_X10_named_32 : lk t_X10_named 32 = some (.ireturn, 33, 0, [], .returned) := rfl
abbrev q_X10_needsName : MI := (yX10_needsName, cX10_needsName, 1, none)
def t_X10_needsName : Tab := [(0, [], (.aload_n 0, 1, 0, [], .returned)),
  (1, [1056], (.getfield 87, 4, 10, [7, 0], .returned)),
  (4, [], (.iconst 2, 5, 0, [], .constant "" 0 (2))),
  (5, [], (.if_icmp .ne 48, 8, 53, [], .returned)),
  (8, [], (.aload_n 0, 9, 0, [], .returned)),
  (9, [], (.ldc 146, 11, 2, [], .returned)),
  (11, [1190, 1193, 1192, 42, 102], (.invokevirtual 117, 14, 0, [1, 10, 0, 0], .code yX10_isWord cX10_isWord 5 (some .boolean))),
  (14, [], (.ifCond .ne 39, 17, 53, [], .returned)),
  (17, [], (.aload_n 0, 18, 0, [], .returned)),
  (18, [], (.ldc 151, 20, 8, [], .returned)),
  (20, [1190, 1193, 1192, 42, 102], (.invokevirtual 117, 23, 0, [1, 10, 0, 0], .code yX10_isWord cX10_isWord 5 (some .boolean))),
  (23, [], (.ifCond .ne 30, 26, 53, [], .returned)),
  (26, [], (.aload_n 0, 27, 0, [], .returned)),
  (27, [], (.ldc 156, 29, 9, [], .returned)),
  (29, [1190, 1193, 1192, 42, 102], (.invokevirtual 117, 32, 0, [1, 10, 0, 0], .code yX10_isWord cX10_isWord 5 (some .boolean))),
  (32, [], (.ifCond .ne 21, 35, 53, [], .returned)),
  (35, [], (.aload_n 0, 36, 0, [], .returned)),
  (36, [], (.ldc 161, 38, 10, [], .returned)),
  (38, [1190, 1193, 1192, 42, 102], (.invokevirtual 117, 41, 0, [1, 10, 0, 0], .code yX10_isWord cX10_isWord 5 (some .boolean))),
  (41, [], (.ifCond .ne 12, 44, 53, [], .returned)),
  (44, [], (.aload_n 0, 45, 0, [], .returned)),
  (45, [], (.ldc 184, 47, 11, [], .returned)),
  (47, [1190, 1193, 1192, 42, 102], (.invokevirtual 117, 50, 0, [1, 10, 0, 0], .code yX10_isWord cX10_isWord 5 (some .boolean))),
  (50, [], (.ifCond .eq 8, 53, 58, [], .returned)),
  (53, [], (.aload_n 0, 54, 0, [], .returned)),
  (54, [], (.iconst 1, 55, 0, [], .constant "" 0 (1))),
  (55, [1246, 1249, 1248, 44, 102], (.invokevirtual 121, 58, 0, [1, 10, 0, 0], .code yX10_flaw cX10_flaw 2 none)),
  (58, [], (.return_, 59, 0, [], .returned))]
theorem ck_X10_needsName : okT q_X10_needsName t_X10_needsName = true := by decide +kernel
theorem e_X10_needsName_0 : lk t_X10_needsName 0 = some (.aload_n 0, 1, 0, [], .returned) := rfl
theorem e_X10_needsName_1 : lk t_X10_needsName 1 = some (.getfield 87, 4, 10, [7, 0], .returned) := rfl
theorem e_X10_needsName_4 : lk t_X10_needsName 4 = some (.iconst 2, 5, 0, [], .constant "" 0 (2)) := rfl
theorem e_X10_needsName_5 : lk t_X10_needsName 5 = some (.if_icmp .ne 48, 8, 53, [], .returned) := rfl
theorem e_X10_needsName_8 : lk t_X10_needsName 8 = some (.aload_n 0, 9, 0, [], .returned) := rfl
theorem e_X10_needsName_9 : lk t_X10_needsName 9 = some (.ldc 146, 11, 2, [], .returned) := rfl
theorem e_X10_needsName_11 : lk t_X10_needsName 11 = some (.invokevirtual 117, 14, 0, [1, 10, 0, 0], .code yX10_isWord cX10_isWord 5 (some .boolean)) := rfl
theorem e_X10_needsName_14 : lk t_X10_needsName 14 = some (.ifCond .ne 39, 17, 53, [], .returned) := rfl
theorem e_X10_needsName_17 : lk t_X10_needsName 17 = some (.aload_n 0, 18, 0, [], .returned) := rfl
theorem e_X10_needsName_18 : lk t_X10_needsName 18 = some (.ldc 151, 20, 8, [], .returned) := rfl
theorem e_X10_needsName_20 : lk t_X10_needsName 20 = some (.invokevirtual 117, 23, 0, [1, 10, 0, 0], .code yX10_isWord cX10_isWord 5 (some .boolean)) := rfl
theorem e_X10_needsName_23 : lk t_X10_needsName 23 = some (.ifCond .ne 30, 26, 53, [], .returned) := rfl
theorem e_X10_needsName_26 : lk t_X10_needsName 26 = some (.aload_n 0, 27, 0, [], .returned) := rfl
theorem e_X10_needsName_27 : lk t_X10_needsName 27 = some (.ldc 156, 29, 9, [], .returned) := rfl
theorem e_X10_needsName_29 : lk t_X10_needsName 29 = some (.invokevirtual 117, 32, 0, [1, 10, 0, 0], .code yX10_isWord cX10_isWord 5 (some .boolean)) := rfl
theorem e_X10_needsName_32 : lk t_X10_needsName 32 = some (.ifCond .ne 21, 35, 53, [], .returned) := rfl
theorem e_X10_needsName_35 : lk t_X10_needsName 35 = some (.aload_n 0, 36, 0, [], .returned) := rfl
theorem e_X10_needsName_36 : lk t_X10_needsName 36 = some (.ldc 161, 38, 10, [], .returned) := rfl
theorem e_X10_needsName_38 : lk t_X10_needsName 38 = some (.invokevirtual 117, 41, 0, [1, 10, 0, 0], .code yX10_isWord cX10_isWord 5 (some .boolean)) := rfl
theorem e_X10_needsName_41 : lk t_X10_needsName 41 = some (.ifCond .ne 12, 44, 53, [], .returned) := rfl
theorem e_X10_needsName_44 : lk t_X10_needsName 44 = some (.aload_n 0, 45, 0, [], .returned) := rfl
theorem e_X10_needsName_45 : lk t_X10_needsName 45 = some (.ldc 184, 47, 11, [], .returned) := rfl
theorem e_X10_needsName_47 : lk t_X10_needsName 47 = some (.invokevirtual 117, 50, 0, [1, 10, 0, 0], .code yX10_isWord cX10_isWord 5 (some .boolean)) := rfl
theorem e_X10_needsName_50 : lk t_X10_needsName 50 = some (.ifCond .eq 8, 53, 58, [], .returned) := rfl
theorem e_X10_needsName_53 : lk t_X10_needsName 53 = some (.aload_n 0, 54, 0, [], .returned) := rfl
theorem e_X10_needsName_54 : lk t_X10_needsName 54 = some (.iconst 1, 55, 0, [], .constant "" 0 (1)) := rfl
theorem e_X10_needsName_55 : lk t_X10_needsName 55 = some (.invokevirtual 121, 58, 0, [1, 10, 0, 0], .code yX10_flaw cX10_flaw 2 none) := rfl
theorem e_X10_needsName_58 : lk t_X10_needsName 58 = some (.return_, 59, 0, [], .returned) := rfl
abbrev q_X10_readName : MI := (yX10_readName, cX10_readName, 3, none)
def t_X10_readName : Tab := [(0, [], (.aload_n 0, 1, 0, [], .returned)),
  (1, [1280, 1283, 1282, 51, 102], (.invokevirtual 186, 4, 0, [0, 10, 0, 0], .code yX10_needsName cX10_needsName 1 none)),
  (4, [], (.aload_n 0, 5, 0, [], .returned)),
  (5, [1059], (.getfield 74, 8, 10, [10, 0], .returned)),
  (8, [], (.ifCond .ne 18, 11, 26, [], .returned)),
  (11, [], (.aload_n 0, 12, 0, [], .returned)),
  (12, [], (.iload_n 1, 13, 1, [], .returned)),
  (13, [], (.iload_n 2, 14, 2, [], .returned)),
  (14, [1287, 1290, 1289, 52, 102], (.invokevirtual 189, 17, 0, [2, 10, 0, 0], .code yX10_named cX10_named 4 (some .int))),
  (17, [], (.iconst (-1), 18, 0, [], .constant "" 0 (-1))),
  (18, [], (.if_icmp .eq 8, 21, 26, [], .returned)),
  (21, [], (.aload_n 0, 22, 0, [], .returned)),
  (22, [], (.iconst 3, 23, 0, [], .constant "" 0 (3))),
  (23, [1246, 1249, 1248, 44, 102], (.invokevirtual 121, 26, 0, [1, 10, 0, 0], .code yX10_flaw cX10_flaw 2 none)),
  (26, [], (.aload_n 0, 27, 0, [], .returned)),
  (27, [1059], (.getfield 74, 30, 10, [10, 0], .returned)),
  (30, [], (.ifCond .ne 15, 33, 45, [], .returned)),
  (33, [], (.aload_n 0, 34, 0, [], .returned)),
  (34, [1063], (.getfield 24, 37, 10, [14, 2], .returned)),
  (37, [], (.iload_n 1, 38, 1, [], .returned)),
  (38, [], (.iload_n 2, 39, 2, [], .returned)),
  (39, [], (.iadd, 40, 0, [], .returned)),
  (40, [], (.aload_n 0, 41, 0, [], .returned)),
  (41, [1060], (.getfield 100, 44, 10, [11, 1], .returned)),
  (44, [], (.lastore, 45, 0, [], .returned)),
  (45, [], (.aload_n 0, 46, 0, [], .returned)),
  (46, [1166, 1169, 1168, 37, 102], (.invokevirtual 125, 49, 0, [0, 10, 0, 0], .code yX10_goOn cX10_goOn 2 none)),
  (49, [], (.return_, 50, 0, [], .returned))]
theorem ck_X10_readName : okT q_X10_readName t_X10_readName = true := by decide +kernel
theorem e_X10_readName_0 : lk t_X10_readName 0 = some (.aload_n 0, 1, 0, [], .returned) := rfl
theorem e_X10_readName_1 : lk t_X10_readName 1 = some (.invokevirtual 186, 4, 0, [0, 10, 0, 0], .code yX10_needsName cX10_needsName 1 none) := rfl
theorem e_X10_readName_4 : lk t_X10_readName 4 = some (.aload_n 0, 5, 0, [], .returned) := rfl
theorem e_X10_readName_5 : lk t_X10_readName 5 = some (.getfield 74, 8, 10, [10, 0], .returned) := rfl
theorem e_X10_readName_8 : lk t_X10_readName 8 = some (.ifCond .ne 18, 11, 26, [], .returned) := rfl
theorem e_X10_readName_11 : lk t_X10_readName 11 = some (.aload_n 0, 12, 0, [], .returned) := rfl
theorem e_X10_readName_12 : lk t_X10_readName 12 = some (.iload_n 1, 13, 1, [], .returned) := rfl
theorem e_X10_readName_13 : lk t_X10_readName 13 = some (.iload_n 2, 14, 2, [], .returned) := rfl
theorem e_X10_readName_14 : lk t_X10_readName 14 = some (.invokevirtual 189, 17, 0, [2, 10, 0, 0], .code yX10_named cX10_named 4 (some .int)) := rfl
theorem e_X10_readName_17 : lk t_X10_readName 17 = some (.iconst (-1), 18, 0, [], .constant "" 0 (-1)) := rfl
theorem e_X10_readName_18 : lk t_X10_readName 18 = some (.if_icmp .eq 8, 21, 26, [], .returned) := rfl
theorem e_X10_readName_21 : lk t_X10_readName 21 = some (.aload_n 0, 22, 0, [], .returned) := rfl
theorem e_X10_readName_22 : lk t_X10_readName 22 = some (.iconst 3, 23, 0, [], .constant "" 0 (3)) := rfl
theorem e_X10_readName_23 : lk t_X10_readName 23 = some (.invokevirtual 121, 26, 0, [1, 10, 0, 0], .code yX10_flaw cX10_flaw 2 none) := rfl
theorem e_X10_readName_26 : lk t_X10_readName 26 = some (.aload_n 0, 27, 0, [], .returned) := rfl
theorem e_X10_readName_27 : lk t_X10_readName 27 = some (.getfield 74, 30, 10, [10, 0], .returned) := rfl
theorem e_X10_readName_30 : lk t_X10_readName 30 = some (.ifCond .ne 15, 33, 45, [], .returned) := rfl
theorem e_X10_readName_33 : lk t_X10_readName 33 = some (.aload_n 0, 34, 0, [], .returned) := rfl
theorem e_X10_readName_34 : lk t_X10_readName 34 = some (.getfield 24, 37, 10, [14, 2], .returned) := rfl
theorem e_X10_readName_37 : lk t_X10_readName 37 = some (.iload_n 1, 38, 1, [], .returned) := rfl
theorem e_X10_readName_38 : lk t_X10_readName 38 = some (.iload_n 2, 39, 2, [], .returned) := rfl
theorem e_X10_readName_39 : lk t_X10_readName 39 = some (.iadd, 40, 0, [], .returned) := rfl
theorem e_X10_readName_40 : lk t_X10_readName 40 = some (.aload_n 0, 41, 0, [], .returned) := rfl
theorem e_X10_readName_41 : lk t_X10_readName 41 = some (.getfield 100, 44, 10, [11, 1], .returned) := rfl
theorem e_X10_readName_44 : lk t_X10_readName 44 = some (.lastore, 45, 0, [], .returned) := rfl
theorem e_X10_readName_45 : lk t_X10_readName 45 = some (.aload_n 0, 46, 0, [], .returned) := rfl
theorem e_X10_readName_46 : lk t_X10_readName 46 = some (.invokevirtual 125, 49, 0, [0, 10, 0, 0], .code yX10_goOn cX10_goOn 2 none) := rfl
theorem e_X10_readName_49 : lk t_X10_readName 49 = some (.return_, 50, 0, [], .returned) := rfl
abbrev q_X10_readNamed : MI := (yX10_readNamed, cX10_readNamed, 4, (some .int))
def t_X10_readNamed : Tab := [(0, [], (.aload_n 0, 1, 0, [], .returned)),
  (1, [1280, 1283, 1282, 51, 102], (.invokevirtual 186, 4, 0, [0, 10, 0, 0], .code yX10_needsName cX10_needsName 1 none)),
  (4, [], (.aload_n 0, 5, 0, [], .returned)),
  (5, [1059], (.getfield 74, 8, 10, [10, 0], .returned)),
  (8, [], (.ifCond .ne 12, 11, 20, [], .returned)),
  (11, [], (.aload_n 0, 12, 0, [], .returned)),
  (12, [], (.iload_n 1, 13, 1, [], .returned)),
  (13, [], (.iload_n 2, 14, 2, [], .returned)),
  (14, [1287, 1290, 1289, 52, 102], (.invokevirtual 189, 17, 0, [2, 10, 0, 0], .code yX10_named cX10_named 4 (some .int))),
  (17, [], (.goto 4, 20, 21, [], .returned)),
  (20, [], (.iconst (-1), 21, 0, [], .constant "" 0 (-1))),
  (21, [], (.istore_n 3, 22, 3, [], .returned)),
  (22, [], (.aload_n 0, 23, 0, [], .returned)),
  (23, [1059], (.getfield 74, 26, 10, [10, 0], .returned)),
  (26, [], (.ifCond .ne 13, 29, 39, [], .returned)),
  (29, [], (.iload_n 3, 30, 3, [], .returned)),
  (30, [], (.iconst (-1), 31, 0, [], .constant "" 0 (-1))),
  (31, [], (.if_icmp .ne 8, 34, 39, [], .returned)),
  (34, [], (.aload_n 0, 35, 0, [], .returned)),
  (35, [], (.iconst 3, 36, 0, [], .constant "" 0 (3))),
  (36, [1246, 1249, 1248, 44, 102], (.invokevirtual 121, 39, 0, [1, 10, 0, 0], .code yX10_flaw cX10_flaw 2 none)),
  (39, [], (.aload_n 0, 40, 0, [], .returned)),
  (40, [1166, 1169, 1168, 37, 102], (.invokevirtual 125, 43, 0, [0, 10, 0, 0], .code yX10_goOn cX10_goOn 2 none)),
  (43, [], (.iload_n 3, 44, 3, [], .returned)),
  (44, [], (.ireturn, 45, 0, [], .returned))]
theorem ck_X10_readNamed : okT q_X10_readNamed t_X10_readNamed = true := by decide +kernel
theorem e_X10_readNamed_0 : lk t_X10_readNamed 0 = some (.aload_n 0, 1, 0, [], .returned) := rfl
theorem e_X10_readNamed_1 : lk t_X10_readNamed 1 = some (.invokevirtual 186, 4, 0, [0, 10, 0, 0], .code yX10_needsName cX10_needsName 1 none) := rfl
theorem e_X10_readNamed_4 : lk t_X10_readNamed 4 = some (.aload_n 0, 5, 0, [], .returned) := rfl
theorem e_X10_readNamed_5 : lk t_X10_readNamed 5 = some (.getfield 74, 8, 10, [10, 0], .returned) := rfl
theorem e_X10_readNamed_8 : lk t_X10_readNamed 8 = some (.ifCond .ne 12, 11, 20, [], .returned) := rfl
theorem e_X10_readNamed_11 : lk t_X10_readNamed 11 = some (.aload_n 0, 12, 0, [], .returned) := rfl
theorem e_X10_readNamed_12 : lk t_X10_readNamed 12 = some (.iload_n 1, 13, 1, [], .returned) := rfl
theorem e_X10_readNamed_13 : lk t_X10_readNamed 13 = some (.iload_n 2, 14, 2, [], .returned) := rfl
theorem e_X10_readNamed_14 : lk t_X10_readNamed 14 = some (.invokevirtual 189, 17, 0, [2, 10, 0, 0], .code yX10_named cX10_named 4 (some .int)) := rfl
theorem e_X10_readNamed_17 : lk t_X10_readNamed 17 = some (.goto 4, 20, 21, [], .returned) := rfl
theorem e_X10_readNamed_20 : lk t_X10_readNamed 20 = some (.iconst (-1), 21, 0, [], .constant "" 0 (-1)) := rfl
theorem e_X10_readNamed_21 : lk t_X10_readNamed 21 = some (.istore_n 3, 22, 3, [], .returned) := rfl
theorem e_X10_readNamed_22 : lk t_X10_readNamed 22 = some (.aload_n 0, 23, 0, [], .returned) := rfl
theorem e_X10_readNamed_23 : lk t_X10_readNamed 23 = some (.getfield 74, 26, 10, [10, 0], .returned) := rfl
theorem e_X10_readNamed_26 : lk t_X10_readNamed 26 = some (.ifCond .ne 13, 29, 39, [], .returned) := rfl
theorem e_X10_readNamed_29 : lk t_X10_readNamed 29 = some (.iload_n 3, 30, 3, [], .returned) := rfl
theorem e_X10_readNamed_30 : lk t_X10_readNamed 30 = some (.iconst (-1), 31, 0, [], .constant "" 0 (-1)) := rfl
theorem e_X10_readNamed_31 : lk t_X10_readNamed 31 = some (.if_icmp .ne 8, 34, 39, [], .returned) := rfl
theorem e_X10_readNamed_34 : lk t_X10_readNamed 34 = some (.aload_n 0, 35, 0, [], .returned) := rfl
theorem e_X10_readNamed_35 : lk t_X10_readNamed 35 = some (.iconst 3, 36, 0, [], .constant "" 0 (3)) := rfl
theorem e_X10_readNamed_36 : lk t_X10_readNamed 36 = some (.invokevirtual 121, 39, 0, [1, 10, 0, 0], .code yX10_flaw cX10_flaw 2 none) := rfl
theorem e_X10_readNamed_39 : lk t_X10_readNamed 39 = some (.aload_n 0, 40, 0, [], .returned) := rfl
theorem e_X10_readNamed_40 : lk t_X10_readNamed 40 = some (.invokevirtual 125, 43, 0, [0, 10, 0, 0], .code yX10_goOn cX10_goOn 2 none) := rfl
theorem e_X10_readNamed_43 : lk t_X10_readNamed 43 = some (.iload_n 3, 44, 3, [], .returned) := rfl
theorem e_X10_readNamed_44 : lk t_X10_readNamed 44 = some (.ireturn, 45, 0, [], .returned) := rfl
