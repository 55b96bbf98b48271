abbrev q_X10_readTable : MI := (yX10_readTable, cX10_readTable, 6, none)
def t_X10_readTable : Tab := [(0, [], (.aload_n 0, 1, 0, [], .returned)),
  (1, [1062], (.getfield 21, 4, 10, [13, 2], .returned)),
  (4, [], (.iconst 3, 5, 0, [], .constant "" 0 (3))),
  (5, [], (.iaload, 6, 0, [], .returned)),
  (6, [], (.istore_n 1, 7, 1, [], .returned)),
  (7, [], (.iload_n 1, 8, 1, [], .returned)),
  (8, [], (.iconst 3, 9, 0, [], .constant "" 0 (3))),
  (9, [], (.if_icmp .ne 8, 12, 17, [], .returned)),
  (12, [], (.aload_n 0, 13, 0, [], .returned)),
  (13, [], (.iconst 5, 14, 0, [], .constant "" 0 (5))),
  (14, [1246, 1249, 1248, 44, 102], (.invokevirtual 121, 17, 0, [1, 10, 0, 0], .code yX10_flaw cX10_flaw 2 none)),
  (17, [], (.aload_n 0, 18, 0, [], .returned)),
  (18, [1065], (.getfield 139, 21, 10, [16, 0], .returned)),
  (21, [], (.ifCond .ne 9, 24, 30, [], .returned)),
  (24, [], (.aload_n 0, 25, 0, [], .returned)),
  (25, [], (.bipush 6, 27, 0, [], .constant "" 0 (6))),
  (27, [1246, 1249, 1248, 44, 102], (.invokevirtual 121, 30, 0, [1, 10, 0, 0], .code yX10_flaw cX10_flaw 2 none)),
  (30, [], (.aload_n 0, 31, 0, [], .returned)),
  (31, [1166, 1169, 1168, 37, 102], (.invokevirtual 125, 34, 0, [0, 10, 0, 0], .code yX10_goOn cX10_goOn 2 none)),
  (34, [], (.aload_n 0, 35, 0, [], .returned)),
  (35, [1059], (.getfield 74, 38, 10, [10, 0], .returned)),
  (38, [], (.ifCond .le 4, 41, 42, [], .returned)),
  (41, [], (.return_, 42, 0, [], .returned)),
  (42, [], (.aload_n 0, 43, 0, [], .returned)),
  (43, [], (.iconst 0, 44, 0, [], .constant "" 0 (0))),
  (44, [], (.iload_n 1, 45, 1, [], .returned)),
  (45, [1276, 1279, 1278, 50, 102], (.invokevirtual 192, 48, 0, [2, 10, 0, 0], .code yX10_readName cX10_readName 3 none)),
  (48, [], (.aload_n 0, 49, 0, [], .returned)),
  (49, [1062], (.getfield 21, 52, 10, [13, 2], .returned)),
  (52, [], (.bipush 6, 54, 0, [], .constant "" 0 (6))),
  (54, [], (.iload_n 1, 55, 1, [], .returned)),
  (55, [], (.iadd, 56, 0, [], .returned)),
  (56, [], (.aload_n 0, 57, 0, [], .returned)),
  (57, [], (.ldc 184, 59, 11, [], .returned)),
  (59, [], (.ldc 196, 61, 12, [], .returned)),
  (61, [1267, 1270, 1269, 48, 102], (.invokevirtual 180, 64, 0, [2, 10, 0, 0], .code yX10_readHow cX10_readHow 4 (some .boolean))),
  (64, [], (.ifCond .eq 7, 67, 71, [], .returned)),
  (67, [], (.iconst 1, 68, 0, [], .constant "" 0 (1))),
  (68, [], (.goto 4, 71, 72, [], .returned)),
  (71, [], (.iconst 0, 72, 0, [], .constant "" 0 (0))),
  (72, [], (.iastore, 73, 0, [], .returned)),
  (73, [], (.iconst 0, 74, 0, [], .constant "" 0 (0))),
  (74, [], (.istore_n 2, 75, 2, [], .returned)),
  (75, [], (.iconst 0, 76, 0, [], .constant "" 0 (0))),
  (76, [], (.istore_n 3, 77, 3, [], .returned)),
  (77, [], (.aload_n 0, 78, 0, [], .returned)),
  (78, [], (.ldc 198, 80, 13, [], .returned)),
  (80, [1190, 1193, 1192, 42, 102], (.invokevirtual 117, 83, 0, [1, 10, 0, 0], .code yX10_isWord cX10_isWord 5 (some .boolean))),
  (83, [], (.ifCond .ne 8, 86, 91, [], .returned)),
  (86, [], (.aload_n 0, 87, 0, [], .returned)),
  (87, [], (.iconst 1, 88, 0, [], .constant "" 0 (1))),
  (88, [1246, 1249, 1248, 44, 102], (.invokevirtual 121, 91, 0, [1, 10, 0, 0], .code yX10_flaw cX10_flaw 2 none)),
  (91, [], (.aload_n 0, 92, 0, [], .returned)),
  (92, [1059], (.getfield 74, 95, 10, [10, 0], .returned)),
  (95, [], (.ifCond .ne 99, 98, 194, [], .returned)),
  (98, [], (.aload_n 0, 99, 0, [], .returned)),
  (99, [], (.ldc 198, 101, 13, [], .returned)),
  (101, [1190, 1193, 1192, 42, 102], (.invokevirtual 117, 104, 0, [1, 10, 0, 0], .code yX10_isWord cX10_isWord 5 (some .boolean))),
  (104, [], (.ifCond .eq 90, 107, 194, [], .returned)),
  (107, [], (.iload_n 2, 108, 2, [], .returned)),
  (108, [], (.bipush 6, 110, 0, [], .constant "" 0 (6))),
  (110, [], (.if_icmp .ne 8, 113, 118, [], .returned)),
  (113, [], (.aload_n 0, 114, 0, [], .returned)),
  (114, [], (.iconst 5, 115, 0, [], .constant "" 0 (5))),
  (115, [1246, 1249, 1248, 44, 102], (.invokevirtual 121, 118, 0, [1, 10, 0, 0], .code yX10_flaw cX10_flaw 2 none)),
  (118, [], (.aload_n 0, 119, 0, [], .returned)),
  (119, [1166, 1169, 1168, 37, 102], (.invokevirtual 125, 122, 0, [0, 10, 0, 0], .code yX10_goOn cX10_goOn 2 none)),
  (122, [], (.aload_n 0, 123, 0, [], .returned)),
  (123, [], (.iload_n 3, 124, 3, [], .returned)),
  (124, [], (.sipush 9999, 127, 0, [], .constant "" 0 (9999))),
  (127, [1259, 1262, 1261, 47, 102], (.invokevirtual 132, 130, 0, [2, 10, 0, 0], .code yX10_readWhole cX10_readWhole 4 (some .int))),
  (130, [], (.istore 4, 132, 4, [], .returned)),
  (132, [], (.aload_n 0, 133, 0, [], .returned)),
  (133, [], (.ldc 200, 135, 14, [], .returned)),
  (135, [], (.iconst 0, 136, 0, [], .constant "" 0 (0))),
  (136, [], (.bipush 99, 138, 0, [], .constant "" 0 (99))),
  (138, [1251, 1254, 1253, 45, 102], (.invokevirtual 168, 141, 0, [3, 10, 0, 0], .code yX10_readPart cX10_readPart 4 (some .int))),
  (141, [], (.istore 5, 143, 5, [], .returned)),
  (143, [], (.aload_n 0, 144, 0, [], .returned)),
  (144, [1059], (.getfield 74, 147, 10, [10, 0], .returned)),
  (147, [], (.ifCond .le 4, 150, 151, [], .returned)),
  (150, [], (.return_, 151, 0, [], .returned)),
  (151, [], (.aload_n 0, 152, 0, [], .returned)),
  (152, [1062], (.getfield 21, 155, 10, [13, 2], .returned)),
  (155, [], (.bipush 12, 157, 0, [], .constant "" 0 (12))),
  (157, [], (.bipush 6, 159, 0, [], .constant "" 0 (6))),
  (159, [], (.iload_n 1, 160, 1, [], .returned)),
  (160, [], (.imul, 161, 0, [], .returned)),
  (161, [], (.iadd, 162, 0, [], .returned)),
  (162, [], (.iload_n 2, 163, 2, [], .returned)),
  (163, [], (.iadd, 164, 0, [], .returned)),
  (164, [], (.iload 4, 166, 4, [], .returned)),
  (166, [], (.iastore, 167, 0, [], .returned)),
  (167, [], (.aload_n 0, 168, 0, [], .returned)),
  (168, [1062], (.getfield 21, 171, 10, [13, 2], .returned)),
  (171, [], (.bipush 30, 173, 0, [], .constant "" 0 (30))),
  (173, [], (.bipush 6, 175, 0, [], .constant "" 0 (6))),
  (175, [], (.iload_n 1, 176, 1, [], .returned)),
  (176, [], (.imul, 177, 0, [], .returned)),
  (177, [], (.iadd, 178, 0, [], .returned)),
  (178, [], (.iload_n 2, 179, 2, [], .returned)),
  (179, [], (.iadd, 180, 0, [], .returned)),
  (180, [], (.iload 5, 182, 5, [], .returned)),
  (182, [], (.iastore, 183, 0, [], .returned)),
  (183, [], (.iload 4, 185, 4, [], .returned)),
  (185, [], (.iconst 1, 186, 0, [], .constant "" 0 (1))),
  (186, [], (.iadd, 187, 0, [], .returned)),
  (187, [], (.istore_n 3, 188, 3, [], .returned)),
  (188, [], (.iinc 2 1, 191, 2, [], .constant "" 0 (1))),
  (191, [], (.goto (-100), 194, 91, [], .returned)),
  (194, [], (.aload_n 0, 195, 0, [], .returned)),
  (195, [1062], (.getfield 21, 198, 10, [13, 2], .returned)),
  (198, [], (.bipush 9, 200, 0, [], .constant "" 0 (9))),
  (200, [], (.iload_n 1, 201, 1, [], .returned)),
  (201, [], (.iadd, 202, 0, [], .returned)),
  (202, [], (.iload_n 2, 203, 2, [], .returned)),
  (203, [], (.iastore, 204, 0, [], .returned)),
  (204, [], (.aload_n 0, 205, 0, [], .returned)),
  (205, [1059], (.getfield 74, 208, 10, [10, 0], .returned)),
  (208, [], (.ifCond .ne 13, 211, 221, [], .returned)),
  (211, [], (.aload_n 0, 212, 0, [], .returned)),
  (212, [1062], (.getfield 21, 215, 10, [13, 2], .returned)),
  (215, [], (.iconst 3, 216, 0, [], .constant "" 0 (3))),
  (216, [], (.dup2, 217, 0, [], .returned)),
  (217, [], (.iaload, 218, 0, [], .returned)),
  (218, [], (.iconst 1, 219, 0, [], .constant "" 0 (1))),
  (219, [], (.iadd, 220, 0, [], .returned)),
  (220, [], (.iastore, 221, 0, [], .returned)),
  (221, [], (.return_, 222, 0, [], .returned))]
theorem ck_X10_readTable : okT q_X10_readTable t_X10_readTable = true := by decide +kernel
theorem e_X10_readTable_0 : lk t_X10_readTable 0 = some (.aload_n 0, 1, 0, [], .returned) := rfl
theorem e_X10_readTable_1 : lk t_X10_readTable 1 = some (.getfield 21, 4, 10, [13, 2], .returned) := rfl
theorem e_X10_readTable_4 : lk t_X10_readTable 4 = some (.iconst 3, 5, 0, [], .constant "" 0 (3)) := rfl
theorem e_X10_readTable_5 : lk t_X10_readTable 5 = some (.iaload, 6, 0, [], .returned) := rfl
theorem e_X10_readTable_6 : lk t_X10_readTable 6 = some (.istore_n 1, 7, 1, [], .returned) := rfl
theorem e_X10_readTable_7 : lk t_X10_readTable 7 = some (.iload_n 1, 8, 1, [], .returned) := rfl
theorem e_X10_readTable_8 : lk t_X10_readTable 8 = some (.iconst 3, 9, 0, [], .constant "" 0 (3)) := rfl
theorem e_X10_readTable_9 : lk t_X10_readTable 9 = some (.if_icmp .ne 8, 12, 17, [], .returned) := rfl
theorem e_X10_readTable_12 : lk t_X10_readTable 12 = some (.aload_n 0, 13, 0, [], .returned) := rfl
theorem e_X10_readTable_13 : lk t_X10_readTable 13 = some (.iconst 5, 14, 0, [], .constant "" 0 (5)) := rfl
theorem e_X10_readTable_14 : lk t_X10_readTable 14 = some (.invokevirtual 121, 17, 0, [1, 10, 0, 0], .code yX10_flaw cX10_flaw 2 none) := rfl
theorem e_X10_readTable_17 : lk t_X10_readTable 17 = some (.aload_n 0, 18, 0, [], .returned) := rfl
theorem e_X10_readTable_18 : lk t_X10_readTable 18 = some (.getfield 139, 21, 10, [16, 0], .returned) := rfl
theorem e_X10_readTable_21 : lk t_X10_readTable 21 = some (.ifCond .ne 9, 24, 30, [], .returned) := rfl
theorem e_X10_readTable_24 : lk t_X10_readTable 24 = some (.aload_n 0, 25, 0, [], .returned) := rfl
theorem e_X10_readTable_25 : lk t_X10_readTable 25 = some (.bipush 6, 27, 0, [], .constant "" 0 (6)) := rfl
theorem e_X10_readTable_27 : lk t_X10_readTable 27 = some (.invokevirtual 121, 30, 0, [1, 10, 0, 0], .code yX10_flaw cX10_flaw 2 none) := rfl
theorem e_X10_readTable_30 : lk t_X10_readTable 30 = some (.aload_n 0, 31, 0, [], .returned) := rfl
theorem e_X10_readTable_31 : lk t_X10_readTable 31 = some (.invokevirtual 125, 34, 0, [0, 10, 0, 0], .code yX10_goOn cX10_goOn 2 none) := rfl
theorem e_X10_readTable_34 : lk t_X10_readTable 34 = some (.aload_n 0, 35, 0, [], .returned) := rfl
theorem e_X10_readTable_35 : lk t_X10_readTable 35 = some (.getfield 74, 38, 10, [10, 0], .returned) := rfl
theorem e_X10_readTable_38 : lk t_X10_readTable 38 = some (.ifCond .le 4, 41, 42, [], .returned) := rfl
theorem e_X10_readTable_41 : lk t_X10_readTable 41 = some (.return_, 42, 0, [], .returned) := rfl
theorem e_X10_readTable_42 : lk t_X10_readTable 42 = some (.aload_n 0, 43, 0, [], .returned) := rfl
theorem e_X10_readTable_43 : lk t_X10_readTable 43 = some (.iconst 0, 44, 0, [], .constant "" 0 (0)) := rfl
theorem e_X10_readTable_44 : lk t_X10_readTable 44 = some (.iload_n 1, 45, 1, [], .returned) := rfl
theorem e_X10_readTable_45 : lk t_X10_readTable 45 = some (.invokevirtual 192, 48, 0, [2, 10, 0, 0], .code yX10_readName cX10_readName 3 none) := rfl
theorem e_X10_readTable_48 : lk t_X10_readTable 48 = some (.aload_n 0, 49, 0, [], .returned) := rfl
theorem e_X10_readTable_49 : lk t_X10_readTable 49 = some (.getfield 21, 52, 10, [13, 2], .returned) := rfl
theorem e_X10_readTable_52 : lk t_X10_readTable 52 = some (.bipush 6, 54, 0, [], .constant "" 0 (6)) := rfl
theorem e_X10_readTable_54 : lk t_X10_readTable 54 = some (.iload_n 1, 55, 1, [], .returned) := rfl
theorem e_X10_readTable_55 : lk t_X10_readTable 55 = some (.iadd, 56, 0, [], .returned) := rfl
theorem e_X10_readTable_56 : lk t_X10_readTable 56 = some (.aload_n 0, 57, 0, [], .returned) := rfl
theorem e_X10_readTable_57 : lk t_X10_readTable 57 = some (.ldc 184, 59, 11, [], .returned) := rfl
theorem e_X10_readTable_59 : lk t_X10_readTable 59 = some (.ldc 196, 61, 12, [], .returned) := rfl
theorem e_X10_readTable_61 : lk t_X10_readTable 61 = some (.invokevirtual 180, 64, 0, [2, 10, 0, 0], .code yX10_readHow cX10_readHow 4 (some .boolean)) := rfl
theorem e_X10_readTable_64 : lk t_X10_readTable 64 = some (.ifCond .eq 7, 67, 71, [], .returned) := rfl
theorem e_X10_readTable_67 : lk t_X10_readTable 67 = some (.iconst 1, 68, 0, [], .constant "" 0 (1)) := rfl
theorem e_X10_readTable_68 : lk t_X10_readTable 68 = some (.goto 4, 71, 72, [], .returned) := rfl
theorem e_X10_readTable_71 : lk t_X10_readTable 71 = some (.iconst 0, 72, 0, [], .constant "" 0 (0)) := rfl
theorem e_X10_readTable_72 : lk t_X10_readTable 72 = some (.iastore, 73, 0, [], .returned) := rfl
theorem e_X10_readTable_73 : lk t_X10_readTable 73 = some (.iconst 0, 74, 0, [], .constant "" 0 (0)) := rfl
theorem e_X10_readTable_74 : lk t_X10_readTable 74 = some (.istore_n 2, 75, 2, [], .returned) := rfl
theorem e_X10_readTable_75 : lk t_X10_readTable 75 = some (.iconst 0, 76, 0, [], .constant "" 0 (0)) := rfl
theorem e_X10_readTable_76 : lk t_X10_readTable 76 = some (.istore_n 3, 77, 3, [], .returned) := rfl
theorem e_X10_readTable_77 : lk t_X10_readTable 77 = some (.aload_n 0, 78, 0, [], .returned) := rfl
theorem e_X10_readTable_78 : lk t_X10_readTable 78 = some (.ldc 198, 80, 13, [], .returned) := rfl
theorem e_X10_readTable_80 : lk t_X10_readTable 80 = some (.invokevirtual 117, 83, 0, [1, 10, 0, 0], .code yX10_isWord cX10_isWord 5 (some .boolean)) := rfl
theorem e_X10_readTable_83 : lk t_X10_readTable 83 = some (.ifCond .ne 8, 86, 91, [], .returned) := rfl
theorem e_X10_readTable_86 : lk t_X10_readTable 86 = some (.aload_n 0, 87, 0, [], .returned) := rfl
theorem e_X10_readTable_87 : lk t_X10_readTable 87 = some (.iconst 1, 88, 0, [], .constant "" 0 (1)) := rfl
theorem e_X10_readTable_88 : lk t_X10_readTable 88 = some (.invokevirtual 121, 91, 0, [1, 10, 0, 0], .code yX10_flaw cX10_flaw 2 none) := rfl
theorem e_X10_readTable_91 : lk t_X10_readTable 91 = some (.aload_n 0, 92, 0, [], .returned) := rfl
theorem e_X10_readTable_92 : lk t_X10_readTable 92 = some (.getfield 74, 95, 10, [10, 0], .returned) := rfl
theorem e_X10_readTable_95 : lk t_X10_readTable 95 = some (.ifCond .ne 99, 98, 194, [], .returned) := rfl
theorem e_X10_readTable_98 : lk t_X10_readTable 98 = some (.aload_n 0, 99, 0, [], .returned) := rfl
theorem e_X10_readTable_99 : lk t_X10_readTable 99 = some (.ldc 198, 101, 13, [], .returned) := rfl
theorem e_X10_readTable_101 : lk t_X10_readTable 101 = some (.invokevirtual 117, 104, 0, [1, 10, 0, 0], .code yX10_isWord cX10_isWord 5 (some .boolean)) := rfl
theorem e_X10_readTable_104 : lk t_X10_readTable 104 = some (.ifCond .eq 90, 107, 194, [], .returned) := rfl
theorem e_X10_readTable_107 : lk t_X10_readTable 107 = some (.iload_n 2, 108, 2, [], .returned) := rfl
theorem e_X10_readTable_108 : lk t_X10_readTable 108 = some (.bipush 6, 110, 0, [], .constant "" 0 (6)) := rfl
theorem e_X10_readTable_110 : lk t_X10_readTable 110 = some (.if_icmp .ne 8, 113, 118, [], .returned) := rfl
theorem e_X10_readTable_113 : lk t_X10_readTable 113 = some (.aload_n 0, 114, 0, [], .returned) := rfl
theorem e_X10_readTable_114 : lk t_X10_readTable 114 = some (.iconst 5, 115, 0, [], .constant "" 0 (5)) := rfl
theorem e_X10_readTable_115 : lk t_X10_readTable 115 = some (.invokevirtual 121, 118, 0, [1, 10, 0, 0], .code yX10_flaw cX10_flaw 2 none) := rfl
theorem e_X10_readTable_118 : lk t_X10_readTable 118 = some (.aload_n 0, 119, 0, [], .returned) := rfl
theorem e_X10_readTable_119 : lk t_X10_readTable 119 = some (.invokevirtual 125, 122, 0, [0, 10, 0, 0], .code yX10_goOn cX10_goOn 2 none) := rfl
theorem e_X10_readTable_122 : lk t_X10_readTable 122 = some (.aload_n 0, 123, 0, [], .returned) := rfl
theorem e_X10_readTable_123 : lk t_X10_readTable 123 = some (.iload_n 3, 124, 3, [], .returned) := rfl
theorem e_X10_readTable_124 : lk t_X10_readTable 124 = some (.sipush 9999, 127, 0, [], .constant "" 0 (9999)) := rfl
theorem e_X10_readTable_127 : lk t_X10_readTable 127 = some (.invokevirtual 132, 130, 0, [2, 10, 0, 0], .code yX10_readWhole cX10_readWhole 4 (some .int)) := rfl
theorem e_X10_readTable_130 : lk t_X10_readTable 130 = some (.istore 4, 132, 4, [], .returned) := rfl
theorem e_X10_readTable_132 : lk t_X10_readTable 132 = some (.aload_n 0, 133, 0, [], .returned) := rfl
theorem e_X10_readTable_133 : lk t_X10_readTable 133 = some (.ldc 200, 135, 14, [], .returned) := rfl
theorem e_X10_readTable_135 : lk t_X10_readTable 135 = some (.iconst 0, 136, 0, [], .constant "" 0 (0)) := rfl
theorem e_X10_readTable_136 : lk t_X10_readTable 136 = some (.bipush 99, 138, 0, [], .constant "" 0 (99)) := rfl
theorem e_X10_readTable_138 : lk t_X10_readTable 138 = some (.invokevirtual 168, 141, 0, [3, 10, 0, 0], .code yX10_readPart cX10_readPart 4 (some .int)) := rfl
theorem e_X10_readTable_141 : lk t_X10_readTable 141 = some (.istore 5, 143, 5, [], .returned) := rfl
theorem e_X10_readTable_143 : lk t_X10_readTable 143 = some (.aload_n 0, 144, 0, [], .returned) := rfl
theorem e_X10_readTable_144 : lk t_X10_readTable 144 = some (.getfield 74, 147, 10, [10, 0], .returned) := rfl
theorem e_X10_readTable_147 : lk t_X10_readTable 147 = some (.ifCond .le 4, 150, 151, [], .returned) := rfl
theorem e_X10_readTable_150 : lk t_X10_readTable 150 = some (.return_, 151, 0, [], .returned) := rfl
theorem e_X10_readTable_151 : lk t_X10_readTable 151 = some (.aload_n 0, 152, 0, [], .returned) := rfl
theorem e_X10_readTable_152 : lk t_X10_readTable 152 = some (.getfield 21, 155, 10, [13, 2], .returned) := rfl
theorem e_X10_readTable_155 : lk t_X10_readTable 155 = some (.bipush 12, 157, 0, [], .constant "" 0 (12)) := rfl
theorem e_X10_readTable_157 : lk t_X10_readTable 157 = some (.bipush 6, 159, 0, [], .constant "" 0 (6)) := rfl
theorem e_X10_readTable_159 : lk t_X10_readTable 159 = some (.iload_n 1, 160, 1, [], .returned) := rfl
theorem e_X10_readTable_160 : lk t_X10_readTable 160 = some (.imul, 161, 0, [], .returned) := rfl
theorem e_X10_readTable_161 : lk t_X10_readTable 161 = some (.iadd, 162, 0, [], .returned) := rfl
theorem e_X10_readTable_162 : lk t_X10_readTable 162 = some (.iload_n 2, 163, 2, [], .returned) := rfl
theorem e_X10_readTable_163 : lk t_X10_readTable 163 = some (.iadd, 164, 0, [], .returned) := rfl
theorem e_X10_readTable_164 : lk t_X10_readTable 164 = some (.iload 4, 166, 4, [], .returned) := rfl
theorem e_X10_readTable_166 : lk t_X10_readTable 166 = some (.iastore, 167, 0, [], .returned) := rfl
theorem e_X10_readTable_167 : lk t_X10_readTable 167 = some (.aload_n 0, 168, 0, [], .returned) := rfl
theorem e_X10_readTable_168 : lk t_X10_readTable 168 = some (.getfield 21, 171, 10, [13, 2], .returned) := rfl
theorem e_X10_readTable_171 : lk t_X10_readTable 171 = some (.bipush 30, 173, 0, [], .constant "" 0 (30)) := rfl
theorem e_X10_readTable_173 : lk t_X10_readTable 173 = some (.bipush 6, 175, 0, [], .constant "" 0 (6)) := rfl
theorem e_X10_readTable_175 : lk t_X10_readTable 175 = some (.iload_n 1, 176, 1, [], .returned) := rfl
theorem e_X10_readTable_176 : lk t_X10_readTable 176 = some (.imul, 177, 0, [], .returned) := rfl
theorem e_X10_readTable_177 : lk t_X10_readTable 177 = some (.iadd, 178, 0, [], .returned) := rfl
theorem e_X10_readTable_178 : lk t_X10_readTable 178 = some (.iload_n 2, 179, 2, [], .returned) := rfl
theorem e_X10_readTable_179 : lk t_X10_readTable 179 = some (.iadd, 180, 0, [], .returned) := rfl
theorem e_X10_readTable_180 : lk t_X10_readTable 180 = some (.iload 5, 182, 5, [], .returned) := rfl
theorem e_X10_readTable_182 : lk t_X10_readTable 182 = some (.iastore, 183, 0, [], .returned) := rfl
theorem e_X10_readTable_183 : lk t_X10_readTable 183 = some (.iload 4, 185, 4, [], .returned) := rfl
theorem e_X10_readTable_185 : lk t_X10_readTable 185 = some (.iconst 1, 186, 0, [], .constant "" 0 (1)) := rfl
theorem e_X10_readTable_186 : lk t_X10_readTable 186 = some (.iadd, 187, 0, [], .returned) := rfl
theorem e_X10_readTable_187 : lk t_X10_readTable 187 = some (.istore_n 3, 188, 3, [], .returned) := rfl
theorem e_X10_readTable_188 : lk t_X10_readTable 188 = some (.iinc 2 1, 191, 2, [], .constant "" 0 (1)) := rfl
theorem e_X10_readTable_191 : lk t_X10_readTable 191 = some (.goto (-100), 194, 91, [], .returned) := rfl
theorem e_X10_readTable_194 : lk t_X10_readTable 194 = some (.aload_n 0, 195, 0, [], .returned) := rfl
theorem e_X10_readTable_195 : lk t_X10_readTable 195 = some (.getfield 21, 198, 10, [13, 2], .returned) := rfl
theorem e_X10_readTable_198 : lk t_X10_readTable 198 = some (.bipush 9, 200, 0, [], .constant "" 0 (9)) := rfl
theorem e_X10_readTable_200 : lk t_X10_readTable 200 = some (.iload_n 1, 201, 1, [], .returned) := rfl
theorem e_X10_readTable_201 : lk t_X10_readTable 201 = some (.iadd, 202, 0, [], .returned) := rfl
theorem e_X10_readTable_202 : lk t_X10_readTable 202 = some (.iload_n 2, 203, 2, [], .returned) := rfl
theorem e_X10_readTable_203 : lk t_X10_readTable 203 = some (.iastore, 204, 0, [], .returned) := rfl
theorem e_X10_readTable_204 : lk t_X10_readTable 204 = some (.aload_n 0, 205, 0, [], .returned) := rfl
theorem e_X10_readTable_205 : lk t_X10_readTable 205 = some (.getfield 74, 208, 10, [10, 0], .returned) := rfl
theorem e_X10_readTable_208 : lk t_X10_readTable 208 = some (.ifCond .ne 13, 211, 221, [], .returned) := rfl
theorem e_X10_readTable_211 : lk t_X10_readTable 211 = some (.aload_n 0, 212, 0, [], .returned) := rfl
theorem e_X10_readTable_212 : lk t_X10_readTable 212 = some (.getfield 21, 215, 10, [13, 2], .returned) := rfl
theorem e_X10_readTable_215 : lk t_X10_readTable 215 = some (.iconst 3, 216, 0, [], .constant "" 0 (3)) := rfl
theorem e_X10_readTable_216 : lk t_X10_readTable 216 = some (.dup2, 217, 0, [], .returned) := rfl
theorem e_X10_readTable_217 : lk t_X10_readTable 217 = some (.iaload, 218, 0, [], .returned) := rfl
theorem e_X10_readTable_218 : lk t_X10_readTable 218 = some (.iconst 1, 219, 0, [], .constant "" 0 (1)) := rfl
theorem e_X10_readTable_219 : lk t_X10_readTable 219 = some (.iadd, 220, 0, [], .returned) := rfl
theorem e_X10_readTable_220 : lk t_X10_readTable 220 = some (.iastore, 221, 0, [], .returned) := rfl
theorem e_X10_readTable_221 : lk t_X10_readTable 221 = some (.return_, 222, 0, [], .returned) := rfl
abbrev q_X10_readPayer : MI := (yX10_readPayer, cX10_readPayer, 2, none)
def t_X10_readPayer : Tab := [(0, [], (.aload_n 0, 1, 0, [], .returned)),
  (1, [1062], (.getfield 21, 4, 10, [13, 2], .returned)),
  (4, [], (.iconst 4, 5, 0, [], .constant "" 0 (4))),
  (5, [], (.iaload, 6, 0, [], .returned)),
  (6, [], (.istore_n 1, 7, 1, [], .returned)),
  (7, [], (.iload_n 1, 8, 1, [], .returned)),
  (8, [], (.iconst 3, 9, 0, [], .constant "" 0 (3))),
  (9, [], (.if_icmp .ne 8, 12, 17, [], .returned)),
  (12, [], (.aload_n 0, 13, 0, [], .returned)),
  (13, [], (.iconst 5, 14, 0, [], .constant "" 0 (5))),
  (14, [1246, 1249, 1248, 44, 102], (.invokevirtual 121, 17, 0, [1, 10, 0, 0], .code yX10_flaw cX10_flaw 2 none)),
  (17, [], (.aload_n 0, 18, 0, [], .returned)),
  (18, [1065], (.getfield 139, 21, 10, [16, 0], .returned)),
  (21, [], (.ifCond .ne 9, 24, 30, [], .returned)),
  (24, [], (.aload_n 0, 25, 0, [], .returned)),
  (25, [], (.bipush 6, 27, 0, [], .constant "" 0 (6))),
  (27, [1246, 1249, 1248, 44, 102], (.invokevirtual 121, 30, 0, [1, 10, 0, 0], .code yX10_flaw cX10_flaw 2 none)),
  (30, [], (.aload_n 0, 31, 0, [], .returned)),
  (31, [1166, 1169, 1168, 37, 102], (.invokevirtual 125, 34, 0, [0, 10, 0, 0], .code yX10_goOn cX10_goOn 2 none)),
  (34, [], (.aload_n 0, 35, 0, [], .returned)),
  (35, [1059], (.getfield 74, 38, 10, [10, 0], .returned)),
  (38, [], (.ifCond .le 4, 41, 42, [], .returned)),
  (41, [], (.return_, 42, 0, [], .returned)),
  (42, [], (.aload_n 0, 43, 0, [], .returned)),
  (43, [], (.iconst 3, 44, 0, [], .constant "" 0 (3))),
  (44, [], (.iload_n 1, 45, 1, [], .returned)),
  (45, [1276, 1279, 1278, 50, 102], (.invokevirtual 192, 48, 0, [2, 10, 0, 0], .code yX10_readName cX10_readName 3 none)),
  (48, [], (.aload_n 0, 49, 0, [], .returned)),
  (49, [1062], (.getfield 21, 52, 10, [13, 2], .returned)),
  (52, [], (.bipush 48, 54, 0, [], .constant "" 0 (48))),
  (54, [], (.iload_n 1, 55, 1, [], .returned)),
  (55, [], (.iadd, 56, 0, [], .returned)),
  (56, [], (.aload_n 0, 57, 0, [], .returned)),
  (57, [], (.ldc 202, 59, 15, [], .returned)),
  (59, [], (.iconst 1, 60, 0, [], .constant "" 0 (1))),
  (60, [], (.iconst 4, 61, 0, [], .constant "" 0 (4))),
  (61, [1251, 1254, 1253, 45, 102], (.invokevirtual 168, 64, 0, [3, 10, 0, 0], .code yX10_readPart cX10_readPart 4 (some .int))),
  (64, [], (.iastore, 65, 0, [], .returned)),
  (65, [], (.aload_n 0, 66, 0, [], .returned)),
  (66, [1059], (.getfield 74, 69, 10, [10, 0], .returned)),
  (69, [], (.ifCond .ne 13, 72, 82, [], .returned)),
  (72, [], (.aload_n 0, 73, 0, [], .returned)),
  (73, [1062], (.getfield 21, 76, 10, [13, 2], .returned)),
  (76, [], (.iconst 4, 77, 0, [], .constant "" 0 (4))),
  (77, [], (.dup2, 78, 0, [], .returned)),
  (78, [], (.iaload, 79, 0, [], .returned)),
  (79, [], (.iconst 1, 80, 0, [], .constant "" 0 (1))),
  (80, [], (.iadd, 81, 0, [], .returned)),
  (81, [], (.iastore, 82, 0, [], .returned)),
  (82, [], (.return_, 83, 0, [], .returned))]
theorem ck_X10_readPayer : okT q_X10_readPayer t_X10_readPayer = true := by decide +kernel
theorem e_X10_readPayer_0 : lk t_X10_readPayer 0 = some (.aload_n 0, 1, 0, [], .returned) := rfl
theorem e_X10_readPayer_1 : lk t_X10_readPayer 1 = some (.getfield 21, 4, 10, [13, 2], .returned) := rfl
theorem e_X10_readPayer_4 : lk t_X10_readPayer 4 = some (.iconst 4, 5, 0, [], .constant "" 0 (4)) := rfl
theorem e_X10_readPayer_5 : lk t_X10_readPayer 5 = some (.iaload, 6, 0, [], .returned) := rfl
theorem e_X10_readPayer_6 : lk t_X10_readPayer 6 = some (.istore_n 1, 7, 1, [], .returned) := rfl
theorem e_X10_readPayer_7 : lk t_X10_readPayer 7 = some (.iload_n 1, 8, 1, [], .returned) := rfl
theorem e_X10_readPayer_8 : lk t_X10_readPayer 8 = some (.iconst 3, 9, 0, [], .constant "" 0 (3)) := rfl
theorem e_X10_readPayer_9 : lk t_X10_readPayer 9 = some (.if_icmp .ne 8, 12, 17, [], .returned) := rfl
theorem e_X10_readPayer_12 : lk t_X10_readPayer 12 = some (.aload_n 0, 13, 0, [], .returned) := rfl
theorem e_X10_readPayer_13 : lk t_X10_readPayer 13 = some (.iconst 5, 14, 0, [], .constant "" 0 (5)) := rfl
theorem e_X10_readPayer_14 : lk t_X10_readPayer 14 = some (.invokevirtual 121, 17, 0, [1, 10, 0, 0], .code yX10_flaw cX10_flaw 2 none) := rfl
theorem e_X10_readPayer_17 : lk t_X10_readPayer 17 = some (.aload_n 0, 18, 0, [], .returned) := rfl
theorem e_X10_readPayer_18 : lk t_X10_readPayer 18 = some (.getfield 139, 21, 10, [16, 0], .returned) := rfl
theorem e_X10_readPayer_21 : lk t_X10_readPayer 21 = some (.ifCond .ne 9, 24, 30, [], .returned) := rfl
theorem e_X10_readPayer_24 : lk t_X10_readPayer 24 = some (.aload_n 0, 25, 0, [], .returned) := rfl
theorem e_X10_readPayer_25 : lk t_X10_readPayer 25 = some (.bipush 6, 27, 0, [], .constant "" 0 (6)) := rfl
theorem e_X10_readPayer_27 : lk t_X10_readPayer 27 = some (.invokevirtual 121, 30, 0, [1, 10, 0, 0], .code yX10_flaw cX10_flaw 2 none) := rfl
theorem e_X10_readPayer_30 : lk t_X10_readPayer 30 = some (.aload_n 0, 31, 0, [], .returned) := rfl
theorem e_X10_readPayer_31 : lk t_X10_readPayer 31 = some (.invokevirtual 125, 34, 0, [0, 10, 0, 0], .code yX10_goOn cX10_goOn 2 none) := rfl
theorem e_X10_readPayer_34 : lk t_X10_readPayer 34 = some (.aload_n 0, 35, 0, [], .returned) := rfl
theorem e_X10_readPayer_35 : lk t_X10_readPayer 35 = some (.getfield 74, 38, 10, [10, 0], .returned) := rfl
theorem e_X10_readPayer_38 : lk t_X10_readPayer 38 = some (.ifCond .le 4, 41, 42, [], .returned) := rfl
theorem e_X10_readPayer_41 : lk t_X10_readPayer 41 = some (.return_, 42, 0, [], .returned) := rfl
theorem e_X10_readPayer_42 : lk t_X10_readPayer 42 = some (.aload_n 0, 43, 0, [], .returned) := rfl
theorem e_X10_readPayer_43 : lk t_X10_readPayer 43 = some (.iconst 3, 44, 0, [], .constant "" 0 (3)) := rfl
theorem e_X10_readPayer_44 : lk t_X10_readPayer 44 = some (.iload_n 1, 45, 1, [], .returned) := rfl
theorem e_X10_readPayer_45 : lk t_X10_readPayer 45 = some (.invokevirtual 192, 48, 0, [2, 10, 0, 0], .code yX10_readName cX10_readName 3 none) := rfl
theorem e_X10_readPayer_48 : lk t_X10_readPayer 48 = some (.aload_n 0, 49, 0, [], .returned) := rfl
theorem e_X10_readPayer_49 : lk t_X10_readPayer 49 = some (.getfield 21, 52, 10, [13, 2], .returned) := rfl
theorem e_X10_readPayer_52 : lk t_X10_readPayer 52 = some (.bipush 48, 54, 0, [], .constant "" 0 (48)) := rfl
theorem e_X10_readPayer_54 : lk t_X10_readPayer 54 = some (.iload_n 1, 55, 1, [], .returned) := rfl
theorem e_X10_readPayer_55 : lk t_X10_readPayer 55 = some (.iadd, 56, 0, [], .returned) := rfl
theorem e_X10_readPayer_56 : lk t_X10_readPayer 56 = some (.aload_n 0, 57, 0, [], .returned) := rfl
theorem e_X10_readPayer_57 : lk t_X10_readPayer 57 = some (.ldc 202, 59, 15, [], .returned) := rfl
theorem e_X10_readPayer_59 : lk t_X10_readPayer 59 = some (.iconst 1, 60, 0, [], .constant "" 0 (1)) := rfl
theorem e_X10_readPayer_60 : lk t_X10_readPayer 60 = some (.iconst 4, 61, 0, [], .constant "" 0 (4)) := rfl
theorem e_X10_readPayer_61 : lk t_X10_readPayer 61 = some (.invokevirtual 168, 64, 0, [3, 10, 0, 0], .code yX10_readPart cX10_readPart 4 (some .int)) := rfl
theorem e_X10_readPayer_64 : lk t_X10_readPayer 64 = some (.iastore, 65, 0, [], .returned) := rfl
theorem e_X10_readPayer_65 : lk t_X10_readPayer 65 = some (.aload_n 0, 66, 0, [], .returned) := rfl
theorem e_X10_readPayer_66 : lk t_X10_readPayer 66 = some (.getfield 74, 69, 10, [10, 0], .returned) := rfl
theorem e_X10_readPayer_69 : lk t_X10_readPayer 69 = some (.ifCond .ne 13, 72, 82, [], .returned) := rfl
theorem e_X10_readPayer_72 : lk t_X10_readPayer 72 = some (.aload_n 0, 73, 0, [], .returned) := rfl
theorem e_X10_readPayer_73 : lk t_X10_readPayer 73 = some (.getfield 21, 76, 10, [13, 2], .returned) := rfl
theorem e_X10_readPayer_76 : lk t_X10_readPayer 76 = some (.iconst 4, 77, 0, [], .constant "" 0 (4)) := rfl
theorem e_X10_readPayer_77 : lk t_X10_readPayer 77 = some (.dup2, 78, 0, [], .returned) := rfl
theorem e_X10_readPayer_78 : lk t_X10_readPayer 78 = some (.iaload, 79, 0, [], .returned) := rfl
theorem e_X10_readPayer_79 : lk t_X10_readPayer 79 = some (.iconst 1, 80, 0, [], .constant "" 0 (1)) := rfl
theorem e_X10_readPayer_80 : lk t_X10_readPayer 80 = some (.iadd, 81, 0, [], .returned) := rfl
theorem e_X10_readPayer_81 : lk t_X10_readPayer 81 = some (.iastore, 82, 0, [], .returned) := rfl
theorem e_X10_readPayer_82 : lk t_X10_readPayer 82 = some (.return_, 83, 0, [], .returned) := rfl
abbrev q_X10_readOrder : MI := (yX10_readOrder, cX10_readOrder, 3, none)
def t_X10_readOrder : Tab := [(0, [], (.aload_n 0, 1, 0, [], .returned)),
  (1, [1062], (.getfield 21, 4, 10, [13, 2], .returned)),
  (4, [], (.iconst 5, 5, 0, [], .constant "" 0 (5))),
  (5, [], (.iaload, 6, 0, [], .returned)),
  (6, [], (.istore_n 1, 7, 1, [], .returned)),
  (7, [], (.iload_n 1, 8, 1, [], .returned)),
  (8, [], (.bipush 6, 10, 0, [], .constant "" 0 (6))),
  (10, [], (.if_icmp .ne 8, 13, 18, [], .returned)),
  (13, [], (.aload_n 0, 14, 0, [], .returned)),
  (14, [], (.iconst 5, 15, 0, [], .constant "" 0 (5))),
  (15, [1246, 1249, 1248, 44, 102], (.invokevirtual 121, 18, 0, [1, 10, 0, 0], .code yX10_flaw cX10_flaw 2 none)),
  (18, [], (.aload_n 0, 19, 0, [], .returned)),
  (19, [1065], (.getfield 139, 22, 10, [16, 0], .returned)),
  (22, [], (.ifCond .ne 9, 25, 31, [], .returned)),
  (25, [], (.aload_n 0, 26, 0, [], .returned)),
  (26, [], (.bipush 6, 28, 0, [], .constant "" 0 (6))),
  (28, [1246, 1249, 1248, 44, 102], (.invokevirtual 121, 31, 0, [1, 10, 0, 0], .code yX10_flaw cX10_flaw 2 none)),
  (31, [], (.aload_n 0, 32, 0, [], .returned)),
  (32, [1166, 1169, 1168, 37, 102], (.invokevirtual 125, 35, 0, [0, 10, 0, 0], .code yX10_goOn cX10_goOn 2 none)),
  (35, [], (.aload_n 0, 36, 0, [], .returned)),
  (36, [1059], (.getfield 74, 39, 10, [10, 0], .returned)),
  (39, [], (.ifCond .le 4, 42, 43, [], .returned)),
  (42, [], (.return_, 43, 0, [], .returned)),
  (43, [], (.aload_n 0, 44, 0, [], .returned)),
  (44, [], (.bipush 6, 46, 0, [], .constant "" 0 (6))),
  (46, [], (.iload_n 1, 47, 1, [], .returned)),
  (47, [1276, 1279, 1278, 50, 102], (.invokevirtual 192, 50, 0, [2, 10, 0, 0], .code yX10_readName cX10_readName 3 none)),
  (50, [], (.aload_n 0, 51, 0, [], .returned)),
  (51, [1062], (.getfield 21, 54, 10, [13, 2], .returned)),
  (54, [], (.bipush 51, 56, 0, [], .constant "" 0 (51))),
  (56, [], (.iload_n 1, 57, 1, [], .returned)),
  (57, [], (.iadd, 58, 0, [], .returned)),
  (58, [], (.aload_n 0, 59, 0, [], .returned)),
  (59, [], (.ldc 204, 61, 16, [], .returned)),
  (61, [], (.iconst 1, 62, 0, [], .constant "" 0 (1))),
  (62, [], (.bipush 9, 64, 0, [], .constant "" 0 (9))),
  (64, [1251, 1254, 1253, 45, 102], (.invokevirtual 168, 67, 0, [3, 10, 0, 0], .code yX10_readPart cX10_readPart 4 (some .int))),
  (67, [], (.iastore, 68, 0, [], .returned)),
  (68, [], (.aload_n 0, 69, 0, [], .returned)),
  (69, [1062], (.getfield 21, 72, 10, [13, 2], .returned)),
  (72, [], (.bipush 57, 74, 0, [], .constant "" 0 (57))),
  (74, [], (.iload_n 1, 75, 1, [], .returned)),
  (75, [], (.iadd, 76, 0, [], .returned)),
  (76, [], (.aload_n 0, 77, 0, [], .returned)),
  (77, [], (.ldc 166, 79, 3, [], .returned)),
  (79, [], (.iconst 0, 80, 0, [], .constant "" 0 (0))),
  (80, [], (.sipush 999, 83, 0, [], .constant "" 0 (999))),
  (83, [1251, 1254, 1253, 45, 102], (.invokevirtual 168, 86, 0, [3, 10, 0, 0], .code yX10_readPart cX10_readPart 4 (some .int))),
  (86, [], (.iastore, 87, 0, [], .returned)),
  (87, [], (.aload_n 0, 88, 0, [], .returned)),
  (88, [1062], (.getfield 21, 91, 10, [13, 2], .returned)),
  (91, [], (.bipush 63, 93, 0, [], .constant "" 0 (63))),
  (93, [], (.iload_n 1, 94, 1, [], .returned)),
  (94, [], (.iadd, 95, 0, [], .returned)),
  (95, [], (.aload_n 0, 96, 0, [], .returned)),
  (96, [], (.ldc 206, 98, 17, [], .returned)),
  (98, [], (.iconst 0, 99, 0, [], .constant "" 0 (0))),
  (99, [1305], (.ldc 208, 101, 0, [], .constant "" 0 (99999))),
  (101, [1251, 1254, 1253, 45, 102], (.invokevirtual 168, 104, 0, [3, 10, 0, 0], .code yX10_readPart cX10_readPart 4 (some .int))),
  (104, [], (.iastore, 105, 0, [], .returned)),
  (105, [], (.aload_n 0, 106, 0, [], .returned)),
  (106, [], (.iload_n 1, 107, 1, [], .returned)),
  (107, [1306, 1309, 1308, 55, 102], (.invokevirtual 209, 110, 0, [1, 10, 0, 0], .code yX10_readKind cX10_readKind 4 none)),
  (110, [], (.aload_n 0, 111, 0, [], .returned)),
  (111, [], (.ldc 212, 113, 19, [], .returned)),
  (113, [1255, 1258, 1257, 46, 102], (.invokevirtual 128, 116, 0, [1, 10, 0, 0], .code yX10_needs cX10_needs 2 none)),
  (116, [], (.aload_n 0, 117, 0, [], .returned)),
  (117, [], (.ldc 184, 119, 11, [], .returned)),
  (119, [1190, 1193, 1192, 42, 102], (.invokevirtual 117, 122, 0, [1, 10, 0, 0], .code yX10_isWord cX10_isWord 5 (some .boolean))),
  (122, [], (.ifCond .eq 21, 125, 143, [], .returned)),
  (125, [], (.aload_n 0, 126, 0, [], .returned)),
  (126, [1062], (.getfield 21, 129, 10, [13, 2], .returned)),
  (129, [], (.bipush 81, 131, 0, [], .constant "" 0 (81))),
  (131, [], (.iload_n 1, 132, 1, [], .returned)),
  (132, [], (.iadd, 133, 0, [], .returned)),
  (133, [], (.bipush 7, 135, 0, [], .constant "" 0 (7))),
  (135, [], (.iastore, 136, 0, [], .returned)),
  (136, [], (.aload_n 0, 137, 0, [], .returned)),
  (137, [1166, 1169, 1168, 37, 102], (.invokevirtual 125, 140, 0, [0, 10, 0, 0], .code yX10_goOn cX10_goOn 2 none)),
  (140, [], (.goto 35, 143, 175, [], .returned)),
  (143, [], (.aload_n 0, 144, 0, [], .returned)),
  (144, [], (.iconst 3, 145, 0, [], .constant "" 0 (3))),
  (145, [], (.aload_n 0, 146, 0, [], .returned)),
  (146, [1062], (.getfield 21, 149, 10, [13, 2], .returned)),
  (149, [], (.iconst 4, 150, 0, [], .constant "" 0 (4))),
  (150, [], (.iaload, 151, 0, [], .returned)),
  (151, [1311, 1314, 1313, 56, 102], (.invokevirtual 213, 154, 0, [2, 10, 0, 0], .code yX10_readNamed cX10_readNamed 4 (some .int))),
  (154, [], (.istore_n 2, 155, 2, [], .returned)),
  (155, [], (.aload_n 0, 156, 0, [], .returned)),
  (156, [1062], (.getfield 21, 159, 10, [13, 2], .returned)),
  (159, [], (.bipush 81, 161, 0, [], .constant "" 0 (81))),
  (161, [], (.iload_n 1, 162, 1, [], .returned)),
  (162, [], (.iadd, 163, 0, [], .returned)),
  (163, [], (.iload_n 2, 164, 2, [], .returned)),
  (164, [], (.ifCond .ge 7, 167, 171, [], .returned)),
  (167, [], (.iconst 0, 168, 0, [], .constant "" 0 (0))),
  (168, [], (.goto 6, 171, 174, [], .returned)),
  (171, [], (.iconst 1, 172, 0, [], .constant "" 0 (1))),
  (172, [], (.iload_n 2, 173, 2, [], .returned)),
  (173, [], (.ishl, 174, 0, [], .returned)),
  (174, [], (.iastore, 175, 0, [], .returned)),
  (175, [], (.aload_n 0, 176, 0, [], .returned)),
  (176, [1059], (.getfield 74, 179, 10, [10, 0], .returned)),
  (179, [], (.ifCond .ne 13, 182, 192, [], .returned)),
  (182, [], (.aload_n 0, 183, 0, [], .returned)),
  (183, [1062], (.getfield 21, 186, 10, [13, 2], .returned)),
  (186, [], (.iconst 5, 187, 0, [], .constant "" 0 (5))),
  (187, [], (.dup2, 188, 0, [], .returned)),
  (188, [], (.iaload, 189, 0, [], .returned)),
  (189, [], (.iconst 1, 190, 0, [], .constant "" 0 (1))),
  (190, [], (.iadd, 191, 0, [], .returned)),
  (191, [], (.iastore, 192, 0, [], .returned)),
  (192, [], (.return_, 193, 0, [], .returned))]
theorem ck_X10_readOrder : okT q_X10_readOrder t_X10_readOrder = true := by decide +kernel
theorem e_X10_readOrder_0 : lk t_X10_readOrder 0 = some (.aload_n 0, 1, 0, [], .returned) := rfl
theorem e_X10_readOrder_1 : lk t_X10_readOrder 1 = some (.getfield 21, 4, 10, [13, 2], .returned) := rfl
theorem e_X10_readOrder_4 : lk t_X10_readOrder 4 = some (.iconst 5, 5, 0, [], .constant "" 0 (5)) := rfl
theorem e_X10_readOrder_5 : lk t_X10_readOrder 5 = some (.iaload, 6, 0, [], .returned) := rfl
theorem e_X10_readOrder_6 : lk t_X10_readOrder 6 = some (.istore_n 1, 7, 1, [], .returned) := rfl
theorem e_X10_readOrder_7 : lk t_X10_readOrder 7 = some (.iload_n 1, 8, 1, [], .returned) := rfl
theorem e_X10_readOrder_8 : lk t_X10_readOrder 8 = some (.bipush 6, 10, 0, [], .constant "" 0 (6)) := rfl
theorem e_X10_readOrder_10 : lk t_X10_readOrder 10 = some (.if_icmp .ne 8, 13, 18, [], .returned) := rfl
theorem e_X10_readOrder_13 : lk t_X10_readOrder 13 = some (.aload_n 0, 14, 0, [], .returned) := rfl
theorem e_X10_readOrder_14 : lk t_X10_readOrder 14 = some (.iconst 5, 15, 0, [], .constant "" 0 (5)) := rfl
theorem e_X10_readOrder_15 : lk t_X10_readOrder 15 = some (.invokevirtual 121, 18, 0, [1, 10, 0, 0], .code yX10_flaw cX10_flaw 2 none) := rfl
theorem e_X10_readOrder_18 : lk t_X10_readOrder 18 = some (.aload_n 0, 19, 0, [], .returned) := rfl
theorem e_X10_readOrder_19 : lk t_X10_readOrder 19 = some (.getfield 139, 22, 10, [16, 0], .returned) := rfl
theorem e_X10_readOrder_22 : lk t_X10_readOrder 22 = some (.ifCond .ne 9, 25, 31, [], .returned) := rfl
theorem e_X10_readOrder_25 : lk t_X10_readOrder 25 = some (.aload_n 0, 26, 0, [], .returned) := rfl
theorem e_X10_readOrder_26 : lk t_X10_readOrder 26 = some (.bipush 6, 28, 0, [], .constant "" 0 (6)) := rfl
theorem e_X10_readOrder_28 : lk t_X10_readOrder 28 = some (.invokevirtual 121, 31, 0, [1, 10, 0, 0], .code yX10_flaw cX10_flaw 2 none) := rfl
theorem e_X10_readOrder_31 : lk t_X10_readOrder 31 = some (.aload_n 0, 32, 0, [], .returned) := rfl
theorem e_X10_readOrder_32 : lk t_X10_readOrder 32 = some (.invokevirtual 125, 35, 0, [0, 10, 0, 0], .code yX10_goOn cX10_goOn 2 none) := rfl
theorem e_X10_readOrder_35 : lk t_X10_readOrder 35 = some (.aload_n 0, 36, 0, [], .returned) := rfl
theorem e_X10_readOrder_36 : lk t_X10_readOrder 36 = some (.getfield 74, 39, 10, [10, 0], .returned) := rfl
theorem e_X10_readOrder_39 : lk t_X10_readOrder 39 = some (.ifCond .le 4, 42, 43, [], .returned) := rfl
theorem e_X10_readOrder_42 : lk t_X10_readOrder 42 = some (.return_, 43, 0, [], .returned) := rfl
theorem e_X10_readOrder_43 : lk t_X10_readOrder 43 = some (.aload_n 0, 44, 0, [], .returned) := rfl
theorem e_X10_readOrder_44 : lk t_X10_readOrder 44 = some (.bipush 6, 46, 0, [], .constant "" 0 (6)) := rfl
theorem e_X10_readOrder_46 : lk t_X10_readOrder 46 = some (.iload_n 1, 47, 1, [], .returned) := rfl
theorem e_X10_readOrder_47 : lk t_X10_readOrder 47 = some (.invokevirtual 192, 50, 0, [2, 10, 0, 0], .code yX10_readName cX10_readName 3 none) := rfl
theorem e_X10_readOrder_50 : lk t_X10_readOrder 50 = some (.aload_n 0, 51, 0, [], .returned) := rfl
theorem e_X10_readOrder_51 : lk t_X10_readOrder 51 = some (.getfield 21, 54, 10, [13, 2], .returned) := rfl
theorem e_X10_readOrder_54 : lk t_X10_readOrder 54 = some (.bipush 51, 56, 0, [], .constant "" 0 (51)) := rfl
theorem e_X10_readOrder_56 : lk t_X10_readOrder 56 = some (.iload_n 1, 57, 1, [], .returned) := rfl
theorem e_X10_readOrder_57 : lk t_X10_readOrder 57 = some (.iadd, 58, 0, [], .returned) := rfl
theorem e_X10_readOrder_58 : lk t_X10_readOrder 58 = some (.aload_n 0, 59, 0, [], .returned) := rfl
theorem e_X10_readOrder_59 : lk t_X10_readOrder 59 = some (.ldc 204, 61, 16, [], .returned) := rfl
theorem e_X10_readOrder_61 : lk t_X10_readOrder 61 = some (.iconst 1, 62, 0, [], .constant "" 0 (1)) := rfl
theorem e_X10_readOrder_62 : lk t_X10_readOrder 62 = some (.bipush 9, 64, 0, [], .constant "" 0 (9)) := rfl
theorem e_X10_readOrder_64 : lk t_X10_readOrder 64 = some (.invokevirtual 168, 67, 0, [3, 10, 0, 0], .code yX10_readPart cX10_readPart 4 (some .int)) := rfl
theorem e_X10_readOrder_67 : lk t_X10_readOrder 67 = some (.iastore, 68, 0, [], .returned) := rfl
theorem e_X10_readOrder_68 : lk t_X10_readOrder 68 = some (.aload_n 0, 69, 0, [], .returned) := rfl
theorem e_X10_readOrder_69 : lk t_X10_readOrder 69 = some (.getfield 21, 72, 10, [13, 2], .returned) := rfl
theorem e_X10_readOrder_72 : lk t_X10_readOrder 72 = some (.bipush 57, 74, 0, [], .constant "" 0 (57)) := rfl
theorem e_X10_readOrder_74 : lk t_X10_readOrder 74 = some (.iload_n 1, 75, 1, [], .returned) := rfl
theorem e_X10_readOrder_75 : lk t_X10_readOrder 75 = some (.iadd, 76, 0, [], .returned) := rfl
theorem e_X10_readOrder_76 : lk t_X10_readOrder 76 = some (.aload_n 0, 77, 0, [], .returned) := rfl
theorem e_X10_readOrder_77 : lk t_X10_readOrder 77 = some (.ldc 166, 79, 3, [], .returned) := rfl
theorem e_X10_readOrder_79 : lk t_X10_readOrder 79 = some (.iconst 0, 80, 0, [], .constant "" 0 (0)) := rfl
theorem e_X10_readOrder_80 : lk t_X10_readOrder 80 = some (.sipush 999, 83, 0, [], .constant "" 0 (999)) := rfl
theorem e_X10_readOrder_83 : lk t_X10_readOrder 83 = some (.invokevirtual 168, 86, 0, [3, 10, 0, 0], .code yX10_readPart cX10_readPart 4 (some .int)) := rfl
theorem e_X10_readOrder_86 : lk t_X10_readOrder 86 = some (.iastore, 87, 0, [], .returned) := rfl
theorem e_X10_readOrder_87 : lk t_X10_readOrder 87 = some (.aload_n 0, 88, 0, [], .returned) := rfl
theorem e_X10_readOrder_88 : lk t_X10_readOrder 88 = some (.getfield 21, 91, 10, [13, 2], .returned) := rfl
theorem e_X10_readOrder_91 : lk t_X10_readOrder 91 = some (.bipush 63, 93, 0, [], .constant "" 0 (63)) := rfl
theorem e_X10_readOrder_93 : lk t_X10_readOrder 93 = some (.iload_n 1, 94, 1, [], .returned) := rfl
theorem e_X10_readOrder_94 : lk t_X10_readOrder 94 = some (.iadd, 95, 0, [], .returned) := rfl
theorem e_X10_readOrder_95 : lk t_X10_readOrder 95 = some (.aload_n 0, 96, 0, [], .returned) := rfl
theorem e_X10_readOrder_96 : lk t_X10_readOrder 96 = some (.ldc 206, 98, 17, [], .returned) := rfl
theorem e_X10_readOrder_98 : lk t_X10_readOrder 98 = some (.iconst 0, 99, 0, [], .constant "" 0 (0)) := rfl
theorem e_X10_readOrder_99 : lk t_X10_readOrder 99 = some (.ldc 208, 101, 0, [], .constant "" 0 (99999)) := rfl
theorem e_X10_readOrder_101 : lk t_X10_readOrder 101 = some (.invokevirtual 168, 104, 0, [3, 10, 0, 0], .code yX10_readPart cX10_readPart 4 (some .int)) := rfl
theorem e_X10_readOrder_104 : lk t_X10_readOrder 104 = some (.iastore, 105, 0, [], .returned) := rfl
theorem e_X10_readOrder_105 : lk t_X10_readOrder 105 = some (.aload_n 0, 106, 0, [], .returned) := rfl
theorem e_X10_readOrder_106 : lk t_X10_readOrder 106 = some (.iload_n 1, 107, 1, [], .returned) := rfl
theorem e_X10_readOrder_107 : lk t_X10_readOrder 107 = some (.invokevirtual 209, 110, 0, [1, 10, 0, 0], .code yX10_readKind cX10_readKind 4 none) := rfl
theorem e_X10_readOrder_110 : lk t_X10_readOrder 110 = some (.aload_n 0, 111, 0, [], .returned) := rfl
theorem e_X10_readOrder_111 : lk t_X10_readOrder 111 = some (.ldc 212, 113, 19, [], .returned) := rfl
theorem e_X10_readOrder_113 : lk t_X10_readOrder 113 = some (.invokevirtual 128, 116, 0, [1, 10, 0, 0], .code yX10_needs cX10_needs 2 none) := rfl
theorem e_X10_readOrder_116 : lk t_X10_readOrder 116 = some (.aload_n 0, 117, 0, [], .returned) := rfl
theorem e_X10_readOrder_117 : lk t_X10_readOrder 117 = some (.ldc 184, 119, 11, [], .returned) := rfl
theorem e_X10_readOrder_119 : lk t_X10_readOrder 119 = some (.invokevirtual 117, 122, 0, [1, 10, 0, 0], .code yX10_isWord cX10_isWord 5 (some .boolean)) := rfl
theorem e_X10_readOrder_122 : lk t_X10_readOrder 122 = some (.ifCond .eq 21, 125, 143, [], .returned) := rfl
theorem e_X10_readOrder_125 : lk t_X10_readOrder 125 = some (.aload_n 0, 126, 0, [], .returned) := rfl
theorem e_X10_readOrder_126 : lk t_X10_readOrder 126 = some (.getfield 21, 129, 10, [13, 2], .returned) := rfl
theorem e_X10_readOrder_129 : lk t_X10_readOrder 129 = some (.bipush 81, 131, 0, [], .constant "" 0 (81)) := rfl
theorem e_X10_readOrder_131 : lk t_X10_readOrder 131 = some (.iload_n 1, 132, 1, [], .returned) := rfl
theorem e_X10_readOrder_132 : lk t_X10_readOrder 132 = some (.iadd, 133, 0, [], .returned) := rfl
theorem e_X10_readOrder_133 : lk t_X10_readOrder 133 = some (.bipush 7, 135, 0, [], .constant "" 0 (7)) := rfl
theorem e_X10_readOrder_135 : lk t_X10_readOrder 135 = some (.iastore, 136, 0, [], .returned) := rfl
theorem e_X10_readOrder_136 : lk t_X10_readOrder 136 = some (.aload_n 0, 137, 0, [], .returned) := rfl
theorem e_X10_readOrder_137 : lk t_X10_readOrder 137 = some (.invokevirtual 125, 140, 0, [0, 10, 0, 0], .code yX10_goOn cX10_goOn 2 none) := rfl
theorem e_X10_readOrder_140 : lk t_X10_readOrder 140 = some (.goto 35, 143, 175, [], .returned) := rfl
theorem e_X10_readOrder_143 : lk t_X10_readOrder 143 = some (.aload_n 0, 144, 0, [], .returned) := rfl
theorem e_X10_readOrder_144 : lk t_X10_readOrder 144 = some (.iconst 3, 145, 0, [], .constant "" 0 (3)) := rfl
theorem e_X10_readOrder_145 : lk t_X10_readOrder 145 = some (.aload_n 0, 146, 0, [], .returned) := rfl
theorem e_X10_readOrder_146 : lk t_X10_readOrder 146 = some (.getfield 21, 149, 10, [13, 2], .returned) := rfl
theorem e_X10_readOrder_149 : lk t_X10_readOrder 149 = some (.iconst 4, 150, 0, [], .constant "" 0 (4)) := rfl
theorem e_X10_readOrder_150 : lk t_X10_readOrder 150 = some (.iaload, 151, 0, [], .returned) := rfl
theorem e_X10_readOrder_151 : lk t_X10_readOrder 151 = some (.invokevirtual 213, 154, 0, [2, 10, 0, 0], .code yX10_readNamed cX10_readNamed 4 (some .int)) := rfl
theorem e_X10_readOrder_154 : lk t_X10_readOrder 154 = some (.istore_n 2, 155, 2, [], .returned) := rfl
theorem e_X10_readOrder_155 : lk t_X10_readOrder 155 = some (.aload_n 0, 156, 0, [], .returned) := rfl
theorem e_X10_readOrder_156 : lk t_X10_readOrder 156 = some (.getfield 21, 159, 10, [13, 2], .returned) := rfl
theorem e_X10_readOrder_159 : lk t_X10_readOrder 159 = some (.bipush 81, 161, 0, [], .constant "" 0 (81)) := rfl
theorem e_X10_readOrder_161 : lk t_X10_readOrder 161 = some (.iload_n 1, 162, 1, [], .returned) := rfl
theorem e_X10_readOrder_162 : lk t_X10_readOrder 162 = some (.iadd, 163, 0, [], .returned) := rfl
theorem e_X10_readOrder_163 : lk t_X10_readOrder 163 = some (.iload_n 2, 164, 2, [], .returned) := rfl
theorem e_X10_readOrder_164 : lk t_X10_readOrder 164 = some (.ifCond .ge 7, 167, 171, [], .returned) := rfl
theorem e_X10_readOrder_167 : lk t_X10_readOrder 167 = some (.iconst 0, 168, 0, [], .constant "" 0 (0)) := rfl
theorem e_X10_readOrder_168 : lk t_X10_readOrder 168 = some (.goto 6, 171, 174, [], .returned) := rfl
theorem e_X10_readOrder_171 : lk t_X10_readOrder 171 = some (.iconst 1, 172, 0, [], .constant "" 0 (1)) := rfl
theorem e_X10_readOrder_172 : lk t_X10_readOrder 172 = some (.iload_n 2, 173, 2, [], .returned) := rfl
theorem e_X10_readOrder_173 : lk t_X10_readOrder 173 = some (.ishl, 174, 0, [], .returned) := rfl
theorem e_X10_readOrder_174 : lk t_X10_readOrder 174 = some (.iastore, 175, 0, [], .returned) := rfl
theorem e_X10_readOrder_175 : lk t_X10_readOrder 175 = some (.aload_n 0, 176, 0, [], .returned) := rfl
theorem e_X10_readOrder_176 : lk t_X10_readOrder 176 = some (.getfield 74, 179, 10, [10, 0], .returned) := rfl
theorem e_X10_readOrder_179 : lk t_X10_readOrder 179 = some (.ifCond .ne 13, 182, 192, [], .returned) := rfl
theorem e_X10_readOrder_182 : lk t_X10_readOrder 182 = some (.aload_n 0, 183, 0, [], .returned) := rfl
theorem e_X10_readOrder_183 : lk t_X10_readOrder 183 = some (.getfield 21, 186, 10, [13, 2], .returned) := rfl
theorem e_X10_readOrder_186 : lk t_X10_readOrder 186 = some (.iconst 5, 187, 0, [], .constant "" 0 (5)) := rfl
theorem e_X10_readOrder_187 : lk t_X10_readOrder 187 = some (.dup2, 188, 0, [], .returned) := rfl
theorem e_X10_readOrder_188 : lk t_X10_readOrder 188 = some (.iaload, 189, 0, [], .returned) := rfl
theorem e_X10_readOrder_189 : lk t_X10_readOrder 189 = some (.iconst 1, 190, 0, [], .constant "" 0 (1)) := rfl
theorem e_X10_readOrder_190 : lk t_X10_readOrder 190 = some (.iadd, 191, 0, [], .returned) := rfl
theorem e_X10_readOrder_191 : lk t_X10_readOrder 191 = some (.iastore, 192, 0, [], .returned) := rfl
theorem e_X10_readOrder_192 : lk t_X10_readOrder 192 = some (.return_, 193, 0, [], .returned) := rfl
abbrev q_X10_readKind : MI := (yX10_readKind, cX10_readKind, 4, none)
def t_X10_readKind : Tab := [(0, [], (.aload_n 0, 1, 0, [], .returned)),
  (1, [], (.ldc 151, 3, 8, [], .returned)),
  (3, [1190, 1193, 1192, 42, 102], (.invokevirtual 117, 6, 0, [1, 10, 0, 0], .code yX10_isWord cX10_isWord 5 (some .boolean))),
  (6, [], (.istore_n 2, 7, 2, [], .returned)),
  (7, [], (.aload_n 0, 8, 0, [], .returned)),
  (8, [], (.ldc 172, 10, 4, [], .returned)),
  (10, [1190, 1193, 1192, 42, 102], (.invokevirtual 117, 13, 0, [1, 10, 0, 0], .code yX10_isWord cX10_isWord 5 (some .boolean))),
  (13, [], (.istore_n 3, 14, 3, [], .returned)),
  (14, [], (.iload_n 2, 15, 2, [], .returned)),
  (15, [], (.ifCond .ne 21, 18, 36, [], .returned)),
  (18, [], (.iload_n 3, 19, 3, [], .returned)),
  (19, [], (.ifCond .ne 17, 22, 36, [], .returned)),
  (22, [], (.aload_n 0, 23, 0, [], .returned)),
  (23, [], (.ldc 216, 25, 18, [], .returned)),
  (25, [1190, 1193, 1192, 42, 102], (.invokevirtual 117, 28, 0, [1, 10, 0, 0], .code yX10_isWord cX10_isWord 5 (some .boolean))),
  (28, [], (.ifCond .ne 8, 31, 36, [], .returned)),
  (31, [], (.aload_n 0, 32, 0, [], .returned)),
  (32, [], (.iconst 1, 33, 0, [], .constant "" 0 (1))),
  (33, [1246, 1249, 1248, 44, 102], (.invokevirtual 121, 36, 0, [1, 10, 0, 0], .code yX10_flaw cX10_flaw 2 none)),
  (36, [], (.aload_n 0, 37, 0, [], .returned)),
  (37, [1166, 1169, 1168, 37, 102], (.invokevirtual 125, 40, 0, [0, 10, 0, 0], .code yX10_goOn cX10_goOn 2 none)),
  (40, [], (.aload_n 0, 41, 0, [], .returned)),
  (41, [1062], (.getfield 21, 44, 10, [13, 2], .returned)),
  (44, [], (.bipush 69, 46, 0, [], .constant "" 0 (69))),
  (46, [], (.iload_n 1, 47, 1, [], .returned)),
  (47, [], (.iadd, 48, 0, [], .returned)),
  (48, [], (.iload_n 2, 49, 2, [], .returned)),
  (49, [], (.ifCond .eq 7, 52, 56, [], .returned)),
  (52, [], (.iconst 1, 53, 0, [], .constant "" 0 (1))),
  (53, [], (.goto 12, 56, 65, [], .returned)),
  (56, [], (.iload_n 3, 57, 3, [], .returned)),
  (57, [], (.ifCond .eq 7, 60, 64, [], .returned)),
  (60, [], (.iconst 2, 61, 0, [], .constant "" 0 (2))),
  (61, [], (.goto 4, 64, 65, [], .returned)),
  (64, [], (.iconst 0, 65, 0, [], .constant "" 0 (0))),
  (65, [], (.iastore, 66, 0, [], .returned)),
  (66, [], (.aload_n 0, 67, 0, [], .returned)),
  (67, [1062], (.getfield 21, 70, 10, [13, 2], .returned)),
  (70, [], (.bipush 75, 72, 0, [], .constant "" 0 (75))),
  (72, [], (.iload_n 1, 73, 1, [], .returned)),
  (73, [], (.iadd, 74, 0, [], .returned)),
  (74, [], (.iload_n 2, 75, 2, [], .returned)),
  (75, [], (.ifCond .eq 17, 78, 92, [], .returned)),
  (78, [], (.aload_n 0, 79, 0, [], .returned)),
  (79, [], (.iconst 0, 80, 0, [], .constant "" 0 (0))),
  (80, [], (.aload_n 0, 81, 0, [], .returned)),
  (81, [1062], (.getfield 21, 84, 10, [13, 2], .returned)),
  (84, [], (.iconst 3, 85, 0, [], .constant "" 0 (3))),
  (85, [], (.iaload, 86, 0, [], .returned)),
  (86, [1311, 1314, 1313, 56, 102], (.invokevirtual 213, 89, 0, [2, 10, 0, 0], .code yX10_readNamed cX10_readNamed 4 (some .int))),
  (89, [], (.goto 20, 92, 109, [], .returned)),
  (92, [], (.aload_n 0, 93, 0, [], .returned)),
  (93, [], (.iconst 1, 94, 0, [], .constant "" 0 (1))),
  (94, [], (.iload_n 3, 95, 3, [], .returned)),
  (95, [], (.ifCond .eq 8, 98, 103, [], .returned)),
  (98, [], (.bipush 99, 100, 0, [], .constant "" 0 (99))),
  (100, [], (.goto 6, 103, 106, [], .returned)),
  (103, [], (.sipush 999, 106, 0, [], .constant "" 0 (999))),
  (106, [1259, 1262, 1261, 47, 102], (.invokevirtual 132, 109, 0, [2, 10, 0, 0], .code yX10_readWhole cX10_readWhole 4 (some .int))),
  (109, [], (.iastore, 110, 0, [], .returned)),
  (110, [], (.return_, 111, 0, [], .returned))]
theorem ck_X10_readKind : okT q_X10_readKind t_X10_readKind = true := by decide +kernel
theorem e_X10_readKind_0 : lk t_X10_readKind 0 = some (.aload_n 0, 1, 0, [], .returned) := rfl
theorem e_X10_readKind_1 : lk t_X10_readKind 1 = some (.ldc 151, 3, 8, [], .returned) := rfl
theorem e_X10_readKind_3 : lk t_X10_readKind 3 = some (.invokevirtual 117, 6, 0, [1, 10, 0, 0], .code yX10_isWord cX10_isWord 5 (some .boolean)) := rfl
theorem e_X10_readKind_6 : lk t_X10_readKind 6 = some (.istore_n 2, 7, 2, [], .returned) := rfl
theorem e_X10_readKind_7 : lk t_X10_readKind 7 = some (.aload_n 0, 8, 0, [], .returned) := rfl
theorem e_X10_readKind_8 : lk t_X10_readKind 8 = some (.ldc 172, 10, 4, [], .returned) := rfl
theorem e_X10_readKind_10 : lk t_X10_readKind 10 = some (.invokevirtual 117, 13, 0, [1, 10, 0, 0], .code yX10_isWord cX10_isWord 5 (some .boolean)) := rfl
theorem e_X10_readKind_13 : lk t_X10_readKind 13 = some (.istore_n 3, 14, 3, [], .returned) := rfl
theorem e_X10_readKind_14 : lk t_X10_readKind 14 = some (.iload_n 2, 15, 2, [], .returned) := rfl
theorem e_X10_readKind_15 : lk t_X10_readKind 15 = some (.ifCond .ne 21, 18, 36, [], .returned) := rfl
theorem e_X10_readKind_18 : lk t_X10_readKind 18 = some (.iload_n 3, 19, 3, [], .returned) := rfl
theorem e_X10_readKind_19 : lk t_X10_readKind 19 = some (.ifCond .ne 17, 22, 36, [], .returned) := rfl
theorem e_X10_readKind_22 : lk t_X10_readKind 22 = some (.aload_n 0, 23, 0, [], .returned) := rfl
theorem e_X10_readKind_23 : lk t_X10_readKind 23 = some (.ldc 216, 25, 18, [], .returned) := rfl
theorem e_X10_readKind_25 : lk t_X10_readKind 25 = some (.invokevirtual 117, 28, 0, [1, 10, 0, 0], .code yX10_isWord cX10_isWord 5 (some .boolean)) := rfl
theorem e_X10_readKind_28 : lk t_X10_readKind 28 = some (.ifCond .ne 8, 31, 36, [], .returned) := rfl
theorem e_X10_readKind_31 : lk t_X10_readKind 31 = some (.aload_n 0, 32, 0, [], .returned) := rfl
theorem e_X10_readKind_32 : lk t_X10_readKind 32 = some (.iconst 1, 33, 0, [], .constant "" 0 (1)) := rfl
theorem e_X10_readKind_33 : lk t_X10_readKind 33 = some (.invokevirtual 121, 36, 0, [1, 10, 0, 0], .code yX10_flaw cX10_flaw 2 none) := rfl
theorem e_X10_readKind_36 : lk t_X10_readKind 36 = some (.aload_n 0, 37, 0, [], .returned) := rfl
theorem e_X10_readKind_37 : lk t_X10_readKind 37 = some (.invokevirtual 125, 40, 0, [0, 10, 0, 0], .code yX10_goOn cX10_goOn 2 none) := rfl
theorem e_X10_readKind_40 : lk t_X10_readKind 40 = some (.aload_n 0, 41, 0, [], .returned) := rfl
theorem e_X10_readKind_41 : lk t_X10_readKind 41 = some (.getfield 21, 44, 10, [13, 2], .returned) := rfl
theorem e_X10_readKind_44 : lk t_X10_readKind 44 = some (.bipush 69, 46, 0, [], .constant "" 0 (69)) := rfl
theorem e_X10_readKind_46 : lk t_X10_readKind 46 = some (.iload_n 1, 47, 1, [], .returned) := rfl
theorem e_X10_readKind_47 : lk t_X10_readKind 47 = some (.iadd, 48, 0, [], .returned) := rfl
theorem e_X10_readKind_48 : lk t_X10_readKind 48 = some (.iload_n 2, 49, 2, [], .returned) := rfl
theorem e_X10_readKind_49 : lk t_X10_readKind 49 = some (.ifCond .eq 7, 52, 56, [], .returned) := rfl
theorem e_X10_readKind_52 : lk t_X10_readKind 52 = some (.iconst 1, 53, 0, [], .constant "" 0 (1)) := rfl
theorem e_X10_readKind_53 : lk t_X10_readKind 53 = some (.goto 12, 56, 65, [], .returned) := rfl
theorem e_X10_readKind_56 : lk t_X10_readKind 56 = some (.iload_n 3, 57, 3, [], .returned) := rfl
theorem e_X10_readKind_57 : lk t_X10_readKind 57 = some (.ifCond .eq 7, 60, 64, [], .returned) := rfl
theorem e_X10_readKind_60 : lk t_X10_readKind 60 = some (.iconst 2, 61, 0, [], .constant "" 0 (2)) := rfl
theorem e_X10_readKind_61 : lk t_X10_readKind 61 = some (.goto 4, 64, 65, [], .returned) := rfl
theorem e_X10_readKind_64 : lk t_X10_readKind 64 = some (.iconst 0, 65, 0, [], .constant "" 0 (0)) := rfl
theorem e_X10_readKind_65 : lk t_X10_readKind 65 = some (.iastore, 66, 0, [], .returned) := rfl
theorem e_X10_readKind_66 : lk t_X10_readKind 66 = some (.aload_n 0, 67, 0, [], .returned) := rfl
theorem e_X10_readKind_67 : lk t_X10_readKind 67 = some (.getfield 21, 70, 10, [13, 2], .returned) := rfl
theorem e_X10_readKind_70 : lk t_X10_readKind 70 = some (.bipush 75, 72, 0, [], .constant "" 0 (75)) := rfl
theorem e_X10_readKind_72 : lk t_X10_readKind 72 = some (.iload_n 1, 73, 1, [], .returned) := rfl
theorem e_X10_readKind_73 : lk t_X10_readKind 73 = some (.iadd, 74, 0, [], .returned) := rfl
theorem e_X10_readKind_74 : lk t_X10_readKind 74 = some (.iload_n 2, 75, 2, [], .returned) := rfl
theorem e_X10_readKind_75 : lk t_X10_readKind 75 = some (.ifCond .eq 17, 78, 92, [], .returned) := rfl
theorem e_X10_readKind_78 : lk t_X10_readKind 78 = some (.aload_n 0, 79, 0, [], .returned) := rfl
theorem e_X10_readKind_79 : lk t_X10_readKind 79 = some (.iconst 0, 80, 0, [], .constant "" 0 (0)) := rfl
theorem e_X10_readKind_80 : lk t_X10_readKind 80 = some (.aload_n 0, 81, 0, [], .returned) := rfl
theorem e_X10_readKind_81 : lk t_X10_readKind 81 = some (.getfield 21, 84, 10, [13, 2], .returned) := rfl
theorem e_X10_readKind_84 : lk t_X10_readKind 84 = some (.iconst 3, 85, 0, [], .constant "" 0 (3)) := rfl
theorem e_X10_readKind_85 : lk t_X10_readKind 85 = some (.iaload, 86, 0, [], .returned) := rfl
theorem e_X10_readKind_86 : lk t_X10_readKind 86 = some (.invokevirtual 213, 89, 0, [2, 10, 0, 0], .code yX10_readNamed cX10_readNamed 4 (some .int)) := rfl
theorem e_X10_readKind_89 : lk t_X10_readKind 89 = some (.goto 20, 92, 109, [], .returned) := rfl
theorem e_X10_readKind_92 : lk t_X10_readKind 92 = some (.aload_n 0, 93, 0, [], .returned) := rfl
theorem e_X10_readKind_93 : lk t_X10_readKind 93 = some (.iconst 1, 94, 0, [], .constant "" 0 (1)) := rfl
theorem e_X10_readKind_94 : lk t_X10_readKind 94 = some (.iload_n 3, 95, 3, [], .returned) := rfl
theorem e_X10_readKind_95 : lk t_X10_readKind 95 = some (.ifCond .eq 8, 98, 103, [], .returned) := rfl
theorem e_X10_readKind_98 : lk t_X10_readKind 98 = some (.bipush 99, 100, 0, [], .constant "" 0 (99)) := rfl
theorem e_X10_readKind_100 : lk t_X10_readKind 100 = some (.goto 6, 103, 106, [], .returned) := rfl
theorem e_X10_readKind_103 : lk t_X10_readKind 103 = some (.sipush 999, 106, 0, [], .constant "" 0 (999)) := rfl
theorem e_X10_readKind_106 : lk t_X10_readKind 106 = some (.invokevirtual 132, 109, 0, [2, 10, 0, 0], .code yX10_readWhole cX10_readWhole 4 (some .int)) := rfl
theorem e_X10_readKind_109 : lk t_X10_readKind 109 = some (.iastore, 110, 0, [], .returned) := rfl
theorem e_X10_readKind_110 : lk t_X10_readKind 110 = some (.return_, 111, 0, [], .returned) := rfl
abbrev q_X10_desk : MI := (yX10_desk, cX10_desk, 3, (some .int))
def t_X10_desk : Tab := [(0, [], (.aload_n 0, 1, 0, [], .returned)),
  (1, [], (.iconst 0, 2, 0, [], .constant "" 0 (0))),
  (2, [1049], (.putfield 65, 5, 10, [0, 0], .returned)),
  (5, [], (.iload_n 1, 6, 1, [], .returned)),
  (6, [], (.ifCond .lt 11, 9, 17, [], .returned)),
  (9, [], (.iload_n 1, 10, 1, [], .returned)),
  (10, [], (.aload_n 0, 11, 0, [], .returned)),
  (11, [1053], (.getfield 136, 14, 10, [4, 0], .returned)),
  (14, [], (.if_icmp .le 9, 17, 23, [], .returned)),
  (17, [], (.aload_n 0, 18, 0, [], .returned)),
  (18, [], (.iconst 2, 19, 0, [], .constant "" 0 (2))),
  (19, [1158, 1161, 1160, 35, 102], (.invokevirtual 218, 22, 0, [1, 10, 0, 0], .code yX10_refused cX10_refused 2 (some .int))),
  (22, [], (.ireturn, 23, 0, [], .returned)),
  (23, [], (.aload_n 0, 24, 0, [], .returned)),
  (24, [], (.iload_n 1, 25, 1, [], .returned)),
  (25, [1054], (.putfield 71, 28, 10, [5, 0], .returned)),
  (28, [], (.aload_n 0, 29, 0, [], .returned)),
  (29, [], (.iconst 0, 30, 0, [], .constant "" 0 (0))),
  (30, [1053], (.putfield 136, 33, 10, [4, 0], .returned)),
  (33, [], (.aload_n 0, 34, 0, [], .returned)),
  (34, [], (.iconst 0, 35, 0, [], .constant "" 0 (0))),
  (35, [1055], (.putfield 77, 38, 10, [6, 0], .returned)),
  (38, [], (.aload_n 0, 39, 0, [], .returned)),
  (39, [], (.iconst 0, 40, 0, [], .constant "" 0 (0))),
  (40, [1059], (.putfield 74, 43, 10, [10, 0], .returned)),
  (43, [], (.aload_n 0, 44, 0, [], .returned)),
  (44, [1162, 1165, 1164, 36, 102], (.invokevirtual 221, 47, 0, [0, 10, 0, 0], .code yX10_readAll cX10_readAll 2 none)),
  (47, [], (.aload_n 0, 48, 0, [], .returned)),
  (48, [1059], (.getfield 74, 51, 10, [10, 0], .returned)),
  (51, [], (.ifCond .le 18, 54, 69, [], .returned)),
  (54, [], (.aload_n 0, 55, 0, [], .returned)),
  (55, [], (.iconst 4, 56, 0, [], .constant "" 0 (4))),
  (56, [1050], (.putfield 68, 59, 10, [1, 0], .returned)),
  (59, [], (.aload_n 0, 60, 0, [], .returned)),
  (60, [], (.aload_n 0, 61, 0, [], .returned)),
  (61, [1057], (.getfield 84, 64, 10, [8, 0], .returned)),
  (64, [1051], (.putfield 9, 67, 10, [2, 0], .returned)),
  (67, [], (.iconst (-1), 68, 0, [], .constant "" 0 (-1))),
  (68, [], (.ireturn, 69, 0, [], .returned)),
  (69, [], (.aload_n 0, 70, 0, [], .returned)),
  (70, [], (.iconst 1, 71, 0, [], .constant "" 0 (1))),
  (71, [1064], (.putfield 224, 74, 10, [15, 3], .returned)),
  (74, [], (.iconst 0, 75, 0, [], .constant "" 0 (0))),
  (75, [], (.istore_n 2, 76, 2, [], .returned)),
  (76, [], (.iload_n 2, 77, 2, [], .returned)),
  (77, [], (.bipush 87, 79, 0, [], .constant "" 0 (87))),
  (79, [], (.if_icmp .ge 21, 82, 100, [], .returned)),
  (82, [], (.aload_n 0, 83, 0, [], .returned)),
  (83, [1061], (.getfield 17, 86, 10, [12, 2], .returned)),
  (86, [], (.iload_n 2, 87, 2, [], .returned)),
  (87, [], (.aload_n 0, 88, 0, [], .returned)),
  (88, [1062], (.getfield 21, 91, 10, [13, 2], .returned)),
  (91, [], (.iload_n 2, 92, 2, [], .returned)),
  (92, [], (.iaload, 93, 0, [], .returned)),
  (93, [], (.iastore, 94, 0, [], .returned)),
  (94, [], (.iinc 2 1, 97, 2, [], .constant "" 0 (1))),
  (97, [], (.goto (-21), 100, 76, [], .returned)),
  (100, [], (.iconst 0, 101, 0, [], .constant "" 0 (0))),
  (101, [], (.istore_n 2, 102, 2, [], .returned)),
  (102, [], (.iload_n 2, 103, 2, [], .returned)),
  (103, [], (.bipush 6, 105, 0, [], .constant "" 0 (6))),
  (105, [], (.if_icmp .ge 37, 108, 142, [], .returned)),
  (108, [], (.aload_n 0, 109, 0, [], .returned)),
  (109, [1066], (.getfield 28, 112, 10, [17, 2], .returned)),
  (112, [], (.iload_n 2, 113, 2, [], .returned)),
  (113, [], (.iconst 0, 114, 0, [], .constant "" 0 (0))),
  (114, [], (.iastore, 115, 0, [], .returned)),
  (115, [], (.aload_n 0, 116, 0, [], .returned)),
  (116, [1067], (.getfield 31, 119, 10, [18, 2], .returned)),
  (119, [], (.iload_n 2, 120, 2, [], .returned)),
  (120, [], (.iconst 0, 121, 0, [], .constant "" 0 (0))),
  (121, [], (.iastore, 122, 0, [], .returned)),
  (122, [], (.aload_n 0, 123, 0, [], .returned)),
  (123, [1068], (.getfield 34, 126, 10, [19, 2], .returned)),
  (126, [], (.iload_n 2, 127, 2, [], .returned)),
  (127, [], (.iconst 0, 128, 0, [], .constant "" 0 (0))),
  (128, [], (.iastore, 129, 0, [], .returned)),
  (129, [], (.aload_n 0, 130, 0, [], .returned)),
  (130, [1072], (.getfield 46, 133, 10, [23, 2], .returned)),
  (133, [], (.iload_n 2, 134, 2, [], .returned)),
  (134, [], (.iconst 0, 135, 0, [], .constant "" 0 (0))),
  (135, [], (.bastore, 136, 1, [], .returned)),
  (136, [], (.iinc 2 1, 139, 2, [], .constant "" 0 (1))),
  (139, [], (.goto (-37), 142, 102, [], .returned)),
  (142, [], (.iconst 0, 143, 0, [], .constant "" 0 (0))),
  (143, [], (.istore_n 2, 144, 2, [], .returned)),
  (144, [], (.iload_n 2, 145, 2, [], .returned)),
  (145, [], (.iconst 3, 146, 0, [], .constant "" 0 (3))),
  (146, [], (.if_icmp .ge 30, 149, 176, [], .returned)),
  (149, [], (.aload_n 0, 150, 0, [], .returned)),
  (150, [1069], (.getfield 37, 153, 10, [20, 2], .returned)),
  (153, [], (.iload_n 2, 154, 2, [], .returned)),
  (154, [], (.iconst 0, 155, 0, [], .constant "" 0 (0))),
  (155, [], (.iastore, 156, 0, [], .returned)),
  (156, [], (.aload_n 0, 157, 0, [], .returned)),
  (157, [1070], (.getfield 40, 160, 10, [21, 2], .returned)),
  (160, [], (.iload_n 2, 161, 2, [], .returned)),
  (161, [], (.iconst 0, 162, 0, [], .constant "" 0 (0))),
  (162, [], (.iastore, 163, 0, [], .returned)),
  (163, [], (.aload_n 0, 164, 0, [], .returned)),
  (164, [1071], (.getfield 43, 167, 10, [22, 2], .returned)),
  (167, [], (.iload_n 2, 168, 2, [], .returned)),
  (168, [], (.iconst 0, 169, 0, [], .constant "" 0 (0))),
  (169, [], (.iastore, 170, 0, [], .returned)),
  (170, [], (.iinc 2 1, 173, 2, [], .constant "" 0 (1))),
  (173, [], (.goto (-29), 176, 144, [], .returned)),
  (176, [], (.aload_n 0, 177, 0, [], .returned)),
  (177, [], (.iconst 0, 178, 0, [], .constant "" 0 (0))),
  (178, [1073], (.putfield 227, 181, 10, [24, 0], .returned)),
  (181, [], (.aload_n 0, 182, 0, [], .returned)),
  (182, [], (.iconst 0, 183, 0, [], .constant "" 0 (0))),
  (183, [1080], (.putfield 229, 186, 10, [31, 0], .returned)),
  (186, [], (.aload_n 0, 187, 0, [], .returned)),
  (187, [], (.aload_n 0, 188, 0, [], .returned)),
  (188, [1061], (.getfield 17, 191, 10, [12, 2], .returned)),
  (191, [], (.iconst 5, 192, 0, [], .constant "" 0 (5))),
  (192, [], (.iaload, 193, 0, [], .returned)),
  (193, [1316, 1319, 1318, 57, 102], (.invokevirtual 232, 196, 0, [1, 10, 0, 0], .code yX10_good cX10_good 2 (some .int))),
  (196, [], (.ireturn, 197, 0, [], .returned))]
theorem ck_X10_desk : okT q_X10_desk t_X10_desk = true := by decide +kernel
theorem e_X10_desk_0 : lk t_X10_desk 0 = some (.aload_n 0, 1, 0, [], .returned) := rfl
theorem e_X10_desk_1 : lk t_X10_desk 1 = some (.iconst 0, 2, 0, [], .constant "" 0 (0)) := rfl
theorem e_X10_desk_2 : lk t_X10_desk 2 = some (.putfield 65, 5, 10, [0, 0], .returned) := rfl
theorem e_X10_desk_5 : lk t_X10_desk 5 = some (.iload_n 1, 6, 1, [], .returned) := rfl
theorem e_X10_desk_6 : lk t_X10_desk 6 = some (.ifCond .lt 11, 9, 17, [], .returned) := rfl
theorem e_X10_desk_9 : lk t_X10_desk 9 = some (.iload_n 1, 10, 1, [], .returned) := rfl
theorem e_X10_desk_10 : lk t_X10_desk 10 = some (.aload_n 0, 11, 0, [], .returned) := rfl
theorem e_X10_desk_11 : lk t_X10_desk 11 = some (.getfield 136, 14, 10, [4, 0], .returned) := rfl
theorem e_X10_desk_14 : lk t_X10_desk 14 = some (.if_icmp .le 9, 17, 23, [], .returned) := rfl
theorem e_X10_desk_17 : lk t_X10_desk 17 = some (.aload_n 0, 18, 0, [], .returned) := rfl
theorem e_X10_desk_18 : lk t_X10_desk 18 = some (.iconst 2, 19, 0, [], .constant "" 0 (2)) := rfl
theorem e_X10_desk_19 : lk t_X10_desk 19 = some (.invokevirtual 218, 22, 0, [1, 10, 0, 0], .code yX10_refused cX10_refused 2 (some .int)) := rfl
theorem e_X10_desk_22 : lk t_X10_desk 22 = some (.ireturn, 23, 0, [], .returned) := rfl
theorem e_X10_desk_23 : lk t_X10_desk 23 = some (.aload_n 0, 24, 0, [], .returned) := rfl
theorem e_X10_desk_24 : lk t_X10_desk 24 = some (.iload_n 1, 25, 1, [], .returned) := rfl
theorem e_X10_desk_25 : lk t_X10_desk 25 = some (.putfield 71, 28, 10, [5, 0], .returned) := rfl
theorem e_X10_desk_28 : lk t_X10_desk 28 = some (.aload_n 0, 29, 0, [], .returned) := rfl
theorem e_X10_desk_29 : lk t_X10_desk 29 = some (.iconst 0, 30, 0, [], .constant "" 0 (0)) := rfl
theorem e_X10_desk_30 : lk t_X10_desk 30 = some (.putfield 136, 33, 10, [4, 0], .returned) := rfl
theorem e_X10_desk_33 : lk t_X10_desk 33 = some (.aload_n 0, 34, 0, [], .returned) := rfl
theorem e_X10_desk_34 : lk t_X10_desk 34 = some (.iconst 0, 35, 0, [], .constant "" 0 (0)) := rfl
theorem e_X10_desk_35 : lk t_X10_desk 35 = some (.putfield 77, 38, 10, [6, 0], .returned) := rfl
theorem e_X10_desk_38 : lk t_X10_desk 38 = some (.aload_n 0, 39, 0, [], .returned) := rfl
theorem e_X10_desk_39 : lk t_X10_desk 39 = some (.iconst 0, 40, 0, [], .constant "" 0 (0)) := rfl
theorem e_X10_desk_40 : lk t_X10_desk 40 = some (.putfield 74, 43, 10, [10, 0], .returned) := rfl
theorem e_X10_desk_43 : lk t_X10_desk 43 = some (.aload_n 0, 44, 0, [], .returned) := rfl
theorem e_X10_desk_44 : lk t_X10_desk 44 = some (.invokevirtual 221, 47, 0, [0, 10, 0, 0], .code yX10_readAll cX10_readAll 2 none) := rfl
theorem e_X10_desk_47 : lk t_X10_desk 47 = some (.aload_n 0, 48, 0, [], .returned) := rfl
theorem e_X10_desk_48 : lk t_X10_desk 48 = some (.getfield 74, 51, 10, [10, 0], .returned) := rfl
theorem e_X10_desk_51 : lk t_X10_desk 51 = some (.ifCond .le 18, 54, 69, [], .returned) := rfl
theorem e_X10_desk_54 : lk t_X10_desk 54 = some (.aload_n 0, 55, 0, [], .returned) := rfl
theorem e_X10_desk_55 : lk t_X10_desk 55 = some (.iconst 4, 56, 0, [], .constant "" 0 (4)) := rfl
theorem e_X10_desk_56 : lk t_X10_desk 56 = some (.putfield 68, 59, 10, [1, 0], .returned) := rfl
theorem e_X10_desk_59 : lk t_X10_desk 59 = some (.aload_n 0, 60, 0, [], .returned) := rfl
theorem e_X10_desk_60 : lk t_X10_desk 60 = some (.aload_n 0, 61, 0, [], .returned) := rfl
theorem e_X10_desk_61 : lk t_X10_desk 61 = some (.getfield 84, 64, 10, [8, 0], .returned) := rfl
theorem e_X10_desk_64 : lk t_X10_desk 64 = some (.putfield 9, 67, 10, [2, 0], .returned) := rfl
theorem e_X10_desk_67 : lk t_X10_desk 67 = some (.iconst (-1), 68, 0, [], .constant "" 0 (-1)) := rfl
theorem e_X10_desk_68 : lk t_X10_desk 68 = some (.ireturn, 69, 0, [], .returned) := rfl
theorem e_X10_desk_69 : lk t_X10_desk 69 = some (.aload_n 0, 70, 0, [], .returned) := rfl
theorem e_X10_desk_70 : lk t_X10_desk 70 = some (.iconst 1, 71, 0, [], .constant "" 0 (1)) := rfl
theorem e_X10_desk_71 : lk t_X10_desk 71 = some (.putfield 224, 74, 10, [15, 3], .returned) := rfl
theorem e_X10_desk_74 : lk t_X10_desk 74 = some (.iconst 0, 75, 0, [], .constant "" 0 (0)) := rfl
theorem e_X10_desk_75 : lk t_X10_desk 75 = some (.istore_n 2, 76, 2, [], .returned) := rfl
theorem e_X10_desk_76 : lk t_X10_desk 76 = some (.iload_n 2, 77, 2, [], .returned) := rfl
theorem e_X10_desk_77 : lk t_X10_desk 77 = some (.bipush 87, 79, 0, [], .constant "" 0 (87)) := rfl
theorem e_X10_desk_79 : lk t_X10_desk 79 = some (.if_icmp .ge 21, 82, 100, [], .returned) := rfl
theorem e_X10_desk_82 : lk t_X10_desk 82 = some (.aload_n 0, 83, 0, [], .returned) := rfl
theorem e_X10_desk_83 : lk t_X10_desk 83 = some (.getfield 17, 86, 10, [12, 2], .returned) := rfl
theorem e_X10_desk_86 : lk t_X10_desk 86 = some (.iload_n 2, 87, 2, [], .returned) := rfl
theorem e_X10_desk_87 : lk t_X10_desk 87 = some (.aload_n 0, 88, 0, [], .returned) := rfl
theorem e_X10_desk_88 : lk t_X10_desk 88 = some (.getfield 21, 91, 10, [13, 2], .returned) := rfl
theorem e_X10_desk_91 : lk t_X10_desk 91 = some (.iload_n 2, 92, 2, [], .returned) := rfl
theorem e_X10_desk_92 : lk t_X10_desk 92 = some (.iaload, 93, 0, [], .returned) := rfl
theorem e_X10_desk_93 : lk t_X10_desk 93 = some (.iastore, 94, 0, [], .returned) := rfl
theorem e_X10_desk_94 : lk t_X10_desk 94 = some (.iinc 2 1, 97, 2, [], .constant "" 0 (1)) := rfl
theorem e_X10_desk_97 : lk t_X10_desk 97 = some (.goto (-21), 100, 76, [], .returned) := rfl
theorem e_X10_desk_100 : lk t_X10_desk 100 = some (.iconst 0, 101, 0, [], .constant "" 0 (0)) := rfl
theorem e_X10_desk_101 : lk t_X10_desk 101 = some (.istore_n 2, 102, 2, [], .returned) := rfl
theorem e_X10_desk_102 : lk t_X10_desk 102 = some (.iload_n 2, 103, 2, [], .returned) := rfl
theorem e_X10_desk_103 : lk t_X10_desk 103 = some (.bipush 6, 105, 0, [], .constant "" 0 (6)) := rfl
theorem e_X10_desk_105 : lk t_X10_desk 105 = some (.if_icmp .ge 37, 108, 142, [], .returned) := rfl
theorem e_X10_desk_108 : lk t_X10_desk 108 = some (.aload_n 0, 109, 0, [], .returned) := rfl
theorem e_X10_desk_109 : lk t_X10_desk 109 = some (.getfield 28, 112, 10, [17, 2], .returned) := rfl
theorem e_X10_desk_112 : lk t_X10_desk 112 = some (.iload_n 2, 113, 2, [], .returned) := rfl
theorem e_X10_desk_113 : lk t_X10_desk 113 = some (.iconst 0, 114, 0, [], .constant "" 0 (0)) := rfl
theorem e_X10_desk_114 : lk t_X10_desk 114 = some (.iastore, 115, 0, [], .returned) := rfl
theorem e_X10_desk_115 : lk t_X10_desk 115 = some (.aload_n 0, 116, 0, [], .returned) := rfl
theorem e_X10_desk_116 : lk t_X10_desk 116 = some (.getfield 31, 119, 10, [18, 2], .returned) := rfl
theorem e_X10_desk_119 : lk t_X10_desk 119 = some (.iload_n 2, 120, 2, [], .returned) := rfl
theorem e_X10_desk_120 : lk t_X10_desk 120 = some (.iconst 0, 121, 0, [], .constant "" 0 (0)) := rfl
theorem e_X10_desk_121 : lk t_X10_desk 121 = some (.iastore, 122, 0, [], .returned) := rfl
theorem e_X10_desk_122 : lk t_X10_desk 122 = some (.aload_n 0, 123, 0, [], .returned) := rfl
theorem e_X10_desk_123 : lk t_X10_desk 123 = some (.getfield 34, 126, 10, [19, 2], .returned) := rfl
theorem e_X10_desk_126 : lk t_X10_desk 126 = some (.iload_n 2, 127, 2, [], .returned) := rfl
theorem e_X10_desk_127 : lk t_X10_desk 127 = some (.iconst 0, 128, 0, [], .constant "" 0 (0)) := rfl
theorem e_X10_desk_128 : lk t_X10_desk 128 = some (.iastore, 129, 0, [], .returned) := rfl
theorem e_X10_desk_129 : lk t_X10_desk 129 = some (.aload_n 0, 130, 0, [], .returned) := rfl
theorem e_X10_desk_130 : lk t_X10_desk 130 = some (.getfield 46, 133, 10, [23, 2], .returned) := rfl
theorem e_X10_desk_133 : lk t_X10_desk 133 = some (.iload_n 2, 134, 2, [], .returned) := rfl
theorem e_X10_desk_134 : lk t_X10_desk 134 = some (.iconst 0, 135, 0, [], .constant "" 0 (0)) := rfl
theorem e_X10_desk_135 : lk t_X10_desk 135 = some (.bastore, 136, 1, [], .returned) := rfl
theorem e_X10_desk_136 : lk t_X10_desk 136 = some (.iinc 2 1, 139, 2, [], .constant "" 0 (1)) := rfl
theorem e_X10_desk_139 : lk t_X10_desk 139 = some (.goto (-37), 142, 102, [], .returned) := rfl
theorem e_X10_desk_142 : lk t_X10_desk 142 = some (.iconst 0, 143, 0, [], .constant "" 0 (0)) := rfl
theorem e_X10_desk_143 : lk t_X10_desk 143 = some (.istore_n 2, 144, 2, [], .returned) := rfl
theorem e_X10_desk_144 : lk t_X10_desk 144 = some (.iload_n 2, 145, 2, [], .returned) := rfl
theorem e_X10_desk_145 : lk t_X10_desk 145 = some (.iconst 3, 146, 0, [], .constant "" 0 (3)) := rfl
theorem e_X10_desk_146 : lk t_X10_desk 146 = some (.if_icmp .ge 30, 149, 176, [], .returned) := rfl
theorem e_X10_desk_149 : lk t_X10_desk 149 = some (.aload_n 0, 150, 0, [], .returned) := rfl
theorem e_X10_desk_150 : lk t_X10_desk 150 = some (.getfield 37, 153, 10, [20, 2], .returned) := rfl
theorem e_X10_desk_153 : lk t_X10_desk 153 = some (.iload_n 2, 154, 2, [], .returned) := rfl
theorem e_X10_desk_154 : lk t_X10_desk 154 = some (.iconst 0, 155, 0, [], .constant "" 0 (0)) := rfl
theorem e_X10_desk_155 : lk t_X10_desk 155 = some (.iastore, 156, 0, [], .returned) := rfl
theorem e_X10_desk_156 : lk t_X10_desk 156 = some (.aload_n 0, 157, 0, [], .returned) := rfl
theorem e_X10_desk_157 : lk t_X10_desk 157 = some (.getfield 40, 160, 10, [21, 2], .returned) := rfl
theorem e_X10_desk_160 : lk t_X10_desk 160 = some (.iload_n 2, 161, 2, [], .returned) := rfl
theorem e_X10_desk_161 : lk t_X10_desk 161 = some (.iconst 0, 162, 0, [], .constant "" 0 (0)) := rfl
theorem e_X10_desk_162 : lk t_X10_desk 162 = some (.iastore, 163, 0, [], .returned) := rfl
theorem e_X10_desk_163 : lk t_X10_desk 163 = some (.aload_n 0, 164, 0, [], .returned) := rfl
theorem e_X10_desk_164 : lk t_X10_desk 164 = some (.getfield 43, 167, 10, [22, 2], .returned) := rfl
theorem e_X10_desk_167 : lk t_X10_desk 167 = some (.iload_n 2, 168, 2, [], .returned) := rfl
theorem e_X10_desk_168 : lk t_X10_desk 168 = some (.iconst 0, 169, 0, [], .constant "" 0 (0)) := rfl
theorem e_X10_desk_169 : lk t_X10_desk 169 = some (.iastore, 170, 0, [], .returned) := rfl
theorem e_X10_desk_170 : lk t_X10_desk 170 = some (.iinc 2 1, 173, 2, [], .constant "" 0 (1)) := rfl
theorem e_X10_desk_173 : lk t_X10_desk 173 = some (.goto (-29), 176, 144, [], .returned) := rfl
theorem e_X10_desk_176 : lk t_X10_desk 176 = some (.aload_n 0, 177, 0, [], .returned) := rfl
theorem e_X10_desk_177 : lk t_X10_desk 177 = some (.iconst 0, 178, 0, [], .constant "" 0 (0)) := rfl
theorem e_X10_desk_178 : lk t_X10_desk 178 = some (.putfield 227, 181, 10, [24, 0], .returned) := rfl
theorem e_X10_desk_181 : lk t_X10_desk 181 = some (.aload_n 0, 182, 0, [], .returned) := rfl
theorem e_X10_desk_182 : lk t_X10_desk 182 = some (.iconst 0, 183, 0, [], .constant "" 0 (0)) := rfl
theorem e_X10_desk_183 : lk t_X10_desk 183 = some (.putfield 229, 186, 10, [31, 0], .returned) := rfl
theorem e_X10_desk_186 : lk t_X10_desk 186 = some (.aload_n 0, 187, 0, [], .returned) := rfl
theorem e_X10_desk_187 : lk t_X10_desk 187 = some (.aload_n 0, 188, 0, [], .returned) := rfl
theorem e_X10_desk_188 : lk t_X10_desk 188 = some (.getfield 17, 191, 10, [12, 2], .returned) := rfl
theorem e_X10_desk_191 : lk t_X10_desk 191 = some (.iconst 5, 192, 0, [], .constant "" 0 (5)) := rfl
theorem e_X10_desk_192 : lk t_X10_desk 192 = some (.iaload, 193, 0, [], .returned) := rfl
theorem e_X10_desk_193 : lk t_X10_desk 193 = some (.invokevirtual 232, 196, 0, [1, 10, 0, 0], .code yX10_good cX10_good 2 (some .int)) := rfl
theorem e_X10_desk_196 : lk t_X10_desk 196 = some (.ireturn, 197, 0, [], .returned) := rfl
abbrev q_X10_fault : MI := (yX10_fault, cX10_fault, 1, (some .int))
def t_X10_fault : Tab := [(0, [], (.aload_n 0, 1, 0, [], .returned)),
  (1, [], (.iconst 0, 2, 0, [], .constant "" 0 (0))),
  (2, [1049], (.putfield 65, 5, 10, [0, 0], .returned)),
  (5, [], (.aload_n 0, 6, 0, [], .returned)),
  (6, [1059], (.getfield 74, 9, 10, [10, 0], .returned)),
  (9, [], (.ireturn, 10, 0, [], .returned))]
theorem ck_X10_fault : okT q_X10_fault t_X10_fault = true := by decide +kernel
theorem e_X10_fault_0 : lk t_X10_fault 0 = some (.aload_n 0, 1, 0, [], .returned) := rfl
theorem e_X10_fault_1 : lk t_X10_fault 1 = some (.iconst 0, 2, 0, [], .constant "" 0 (0)) := rfl
theorem e_X10_fault_2 : lk t_X10_fault 2 = some (.putfield 65, 5, 10, [0, 0], .returned) := rfl
theorem e_X10_fault_5 : lk t_X10_fault 5 = some (.aload_n 0, 6, 0, [], .returned) := rfl
theorem e_X10_fault_6 : lk t_X10_fault 6 = some (.getfield 74, 9, 10, [10, 0], .returned) := rfl
theorem e_X10_fault_9 : lk t_X10_fault 9 = some (.ireturn, 10, 0, [], .returned) := rfl
abbrev q_X10_where : MI := (yX10_where, cX10_where, 1, (some .int))
def t_X10_where : Tab := [(0, [], (.aload_n 0, 1, 0, [], .returned)),
  (1, [], (.iconst 0, 2, 0, [], .constant "" 0 (0))),
  (2, [1049], (.putfield 65, 5, 10, [0, 0], .returned)),
  (5, [], (.aload_n 0, 6, 0, [], .returned)),
  (6, [1051], (.getfield 9, 9, 10, [2, 0], .returned)),
  (9, [], (.ireturn, 10, 0, [], .returned))]
theorem ck_X10_where : okT q_X10_where t_X10_where = true := by decide +kernel
theorem e_X10_where_0 : lk t_X10_where 0 = some (.aload_n 0, 1, 0, [], .returned) := rfl
theorem e_X10_where_1 : lk t_X10_where 1 = some (.iconst 0, 2, 0, [], .constant "" 0 (0)) := rfl
theorem e_X10_where_2 : lk t_X10_where 2 = some (.putfield 65, 5, 10, [0, 0], .returned) := rfl
theorem e_X10_where_5 : lk t_X10_where 5 = some (.aload_n 0, 6, 0, [], .returned) := rfl
theorem e_X10_where_6 : lk t_X10_where 6 = some (.getfield 9, 9, 10, [2, 0], .returned) := rfl
theorem e_X10_where_9 : lk t_X10_where 9 = some (.ireturn, 10, 0, [], .returned) := rfl
abbrev q_X10_restOf : MI := (yX10_restOf, cX10_restOf, 3, (some .int))
def t_X10_restOf : Tab := [(0, [], (.aload_n 0, 1, 0, [], .returned)),
  (1, [1061], (.getfield 17, 4, 10, [12, 2], .returned)),
  (4, [], (.bipush 63, 6, 0, [], .constant "" 0 (63))),
  (6, [], (.iload_n 2, 7, 2, [], .returned)),
  (7, [], (.iadd, 8, 0, [], .returned)),
  (8, [], (.iaload, 9, 0, [], .returned)),
  (9, [], (.ifCond .ne 8, 12, 17, [], .returned)),
  (12, [1351], (.ldc 235, 14, 0, [], .constant "" 0 (999999))),
  (14, [], (.goto 21, 17, 35, [], .returned)),
  (17, [], (.aload_n 0, 18, 0, [], .returned)),
  (18, [1061], (.getfield 17, 21, 10, [12, 2], .returned)),
  (21, [], (.bipush 63, 23, 0, [], .constant "" 0 (63))),
  (23, [], (.iload_n 2, 24, 2, [], .returned)),
  (24, [], (.iadd, 25, 0, [], .returned)),
  (25, [], (.iaload, 26, 0, [], .returned)),
  (26, [], (.aload_n 0, 27, 0, [], .returned)),
  (27, [1066], (.getfield 28, 30, 10, [17, 2], .returned)),
  (30, [], (.iload_n 1, 31, 1, [], .returned)),
  (31, [], (.iload_n 2, 32, 2, [], .returned)),
  (32, [], (.iadd, 33, 0, [], .returned)),
  (33, [], (.iaload, 34, 0, [], .returned)),
  (34, [], (.isub, 35, 0, [], .returned)),
  (35, [], (.ireturn, 36, 0, [], .returned))]
theorem ck_X10_restOf : okT q_X10_restOf t_X10_restOf = true := by decide +kernel
theorem e_X10_restOf_0 : lk t_X10_restOf 0 = some (.aload_n 0, 1, 0, [], .returned) := rfl
theorem e_X10_restOf_1 : lk t_X10_restOf 1 = some (.getfield 17, 4, 10, [12, 2], .returned) := rfl
theorem e_X10_restOf_4 : lk t_X10_restOf 4 = some (.bipush 63, 6, 0, [], .constant "" 0 (63)) := rfl
theorem e_X10_restOf_6 : lk t_X10_restOf 6 = some (.iload_n 2, 7, 2, [], .returned) := rfl
theorem e_X10_restOf_7 : lk t_X10_restOf 7 = some (.iadd, 8, 0, [], .returned) := rfl
theorem e_X10_restOf_8 : lk t_X10_restOf 8 = some (.iaload, 9, 0, [], .returned) := rfl
theorem e_X10_restOf_9 : lk t_X10_restOf 9 = some (.ifCond .ne 8, 12, 17, [], .returned) := rfl
theorem e_X10_restOf_12 : lk t_X10_restOf 12 = some (.ldc 235, 14, 0, [], .constant "" 0 (999999)) := rfl
theorem e_X10_restOf_14 : lk t_X10_restOf 14 = some (.goto 21, 17, 35, [], .returned) := rfl
theorem e_X10_restOf_17 : lk t_X10_restOf 17 = some (.aload_n 0, 18, 0, [], .returned) := rfl
theorem e_X10_restOf_18 : lk t_X10_restOf 18 = some (.getfield 17, 21, 10, [12, 2], .returned) := rfl
theorem e_X10_restOf_21 : lk t_X10_restOf 21 = some (.bipush 63, 23, 0, [], .constant "" 0 (63)) := rfl
theorem e_X10_restOf_23 : lk t_X10_restOf 23 = some (.iload_n 2, 24, 2, [], .returned) := rfl
theorem e_X10_restOf_24 : lk t_X10_restOf 24 = some (.iadd, 25, 0, [], .returned) := rfl
theorem e_X10_restOf_25 : lk t_X10_restOf 25 = some (.iaload, 26, 0, [], .returned) := rfl
theorem e_X10_restOf_26 : lk t_X10_restOf 26 = some (.aload_n 0, 27, 0, [], .returned) := rfl
theorem e_X10_restOf_27 : lk t_X10_restOf 27 = some (.getfield 28, 30, 10, [17, 2], .returned) := rfl
theorem e_X10_restOf_30 : lk t_X10_restOf 30 = some (.iload_n 1, 31, 1, [], .returned) := rfl
theorem e_X10_restOf_31 : lk t_X10_restOf 31 = some (.iload_n 2, 32, 2, [], .returned) := rfl
theorem e_X10_restOf_32 : lk t_X10_restOf 32 = some (.iadd, 33, 0, [], .returned) := rfl
theorem e_X10_restOf_33 : lk t_X10_restOf 33 = some (.iaload, 34, 0, [], .returned) := rfl
theorem e_X10_restOf_34 : lk t_X10_restOf 34 = some (.isub, 35, 0, [], .returned) := rfl
theorem e_X10_restOf_35 : lk t_X10_restOf 35 = some (.ireturn, 36, 0, [], .returned) := rfl
abbrev q_X10_isLive : MI := (yX10_isLive, cX10_isLive, 3, (some .boolean))
def t_X10_isLive : Tab := [(0, [], (.aload_n 0, 1, 0, [], .returned)),
  (1, [1072], (.getfield 46, 4, 10, [23, 2], .returned)),
  (4, [], (.iload_n 2, 5, 2, [], .returned)),
  (5, [], (.baload, 6, 0, [], .returned)),
  (6, [], (.ifCond .ne 16, 9, 22, [], .returned)),
  (9, [], (.aload_n 0, 10, 0, [], .returned)),
  (10, [], (.iload_n 1, 11, 1, [], .returned)),
  (11, [], (.iload_n 2, 12, 2, [], .returned)),
  (12, [1347, 1350, 1349, 61, 102], (.invokevirtual 236, 15, 0, [2, 10, 0, 0], .code yX10_restOf cX10_restOf 3 (some .int))),
  (15, [], (.ifCond .le 7, 18, 22, [], .returned)),
  (18, [], (.iconst 1, 19, 0, [], .constant "" 0 (1))),
  (19, [], (.goto 4, 22, 23, [], .returned)),
  (22, [], (.iconst 0, 23, 0, [], .constant "" 0 (0))),
  (23, [], (.ireturn, 24, 1, [], .returned))]
theorem ck_X10_isLive : okT q_X10_isLive t_X10_isLive = true := by decide +kernel
theorem e_X10_isLive_0 : lk t_X10_isLive 0 = some (.aload_n 0, 1, 0, [], .returned) := rfl
theorem e_X10_isLive_1 : lk t_X10_isLive 1 = some (.getfield 46, 4, 10, [23, 2], .returned) := rfl
theorem e_X10_isLive_4 : lk t_X10_isLive 4 = some (.iload_n 2, 5, 2, [], .returned) := rfl
theorem e_X10_isLive_5 : lk t_X10_isLive 5 = some (.baload, 6, 0, [], .returned) := rfl
theorem e_X10_isLive_6 : lk t_X10_isLive 6 = some (.ifCond .ne 16, 9, 22, [], .returned) := rfl
theorem e_X10_isLive_9 : lk t_X10_isLive 9 = some (.aload_n 0, 10, 0, [], .returned) := rfl
theorem e_X10_isLive_10 : lk t_X10_isLive 10 = some (.iload_n 1, 11, 1, [], .returned) := rfl
theorem e_X10_isLive_11 : lk t_X10_isLive 11 = some (.iload_n 2, 12, 2, [], .returned) := rfl
theorem e_X10_isLive_12 : lk t_X10_isLive 12 = some (.invokevirtual 236, 15, 0, [2, 10, 0, 0], .code yX10_restOf cX10_restOf 3 (some .int)) := rfl
theorem e_X10_isLive_15 : lk t_X10_isLive 15 = some (.ifCond .le 7, 18, 22, [], .returned) := rfl
theorem e_X10_isLive_18 : lk t_X10_isLive 18 = some (.iconst 1, 19, 0, [], .constant "" 0 (1)) := rfl
theorem e_X10_isLive_19 : lk t_X10_isLive 19 = some (.goto 4, 22, 23, [], .returned) := rfl
theorem e_X10_isLive_22 : lk t_X10_isLive 22 = some (.iconst 0, 23, 0, [], .constant "" 0 (0)) := rfl
theorem e_X10_isLive_23 : lk t_X10_isLive 23 = some (.ireturn, 24, 1, [], .returned) := rfl
abbrev q_X10_isAt : MI := (yX10_isAt, cX10_isAt, 3, (some .boolean))
def t_X10_isAt : Tab := [(0, [], (.aload_n 0, 1, 0, [], .returned)),
  (1, [1061], (.getfield 17, 4, 10, [12, 2], .returned)),
  (4, [], (.bipush 81, 6, 0, [], .constant "" 0 (81))),
  (6, [], (.iload_n 1, 7, 1, [], .returned)),
  (7, [], (.iadd, 8, 0, [], .returned)),
  (8, [], (.iaload, 9, 0, [], .returned)),
  (9, [], (.iload_n 2, 10, 2, [], .returned)),
  (10, [], (.ishr, 11, 0, [], .returned)),
  (11, [], (.iconst 1, 12, 0, [], .constant "" 0 (1))),
  (12, [], (.iand, 13, 0, [], .returned)),
  (13, [], (.iconst 1, 14, 0, [], .constant "" 0 (1))),
  (14, [], (.if_icmp .ne 7, 17, 21, [], .returned)),
  (17, [], (.iconst 1, 18, 0, [], .constant "" 0 (1))),
  (18, [], (.goto 4, 21, 22, [], .returned)),
  (21, [], (.iconst 0, 22, 0, [], .constant "" 0 (0))),
  (22, [], (.ireturn, 23, 1, [], .returned))]
theorem ck_X10_isAt : okT q_X10_isAt t_X10_isAt = true := by decide +kernel
theorem e_X10_isAt_0 : lk t_X10_isAt 0 = some (.aload_n 0, 1, 0, [], .returned) := rfl
theorem e_X10_isAt_1 : lk t_X10_isAt 1 = some (.getfield 17, 4, 10, [12, 2], .returned) := rfl
theorem e_X10_isAt_4 : lk t_X10_isAt 4 = some (.bipush 81, 6, 0, [], .constant "" 0 (81)) := rfl
theorem e_X10_isAt_6 : lk t_X10_isAt 6 = some (.iload_n 1, 7, 1, [], .returned) := rfl
theorem e_X10_isAt_7 : lk t_X10_isAt 7 = some (.iadd, 8, 0, [], .returned) := rfl
theorem e_X10_isAt_8 : lk t_X10_isAt 8 = some (.iaload, 9, 0, [], .returned) := rfl
theorem e_X10_isAt_9 : lk t_X10_isAt 9 = some (.iload_n 2, 10, 2, [], .returned) := rfl
theorem e_X10_isAt_10 : lk t_X10_isAt 10 = some (.ishr, 11, 0, [], .returned) := rfl
theorem e_X10_isAt_11 : lk t_X10_isAt 11 = some (.iconst 1, 12, 0, [], .constant "" 0 (1)) := rfl
theorem e_X10_isAt_12 : lk t_X10_isAt 12 = some (.iand, 13, 0, [], .returned) := rfl
theorem e_X10_isAt_13 : lk t_X10_isAt 13 = some (.iconst 1, 14, 0, [], .constant "" 0 (1)) := rfl
theorem e_X10_isAt_14 : lk t_X10_isAt 14 = some (.if_icmp .ne 7, 17, 21, [], .returned) := rfl
theorem e_X10_isAt_17 : lk t_X10_isAt 17 = some (.iconst 1, 18, 0, [], .constant "" 0 (1)) := rfl
theorem e_X10_isAt_18 : lk t_X10_isAt 18 = some (.goto 4, 21, 22, [], .returned) := rfl
theorem e_X10_isAt_21 : lk t_X10_isAt 21 = some (.iconst 0, 22, 0, [], .constant "" 0 (0)) := rfl
theorem e_X10_isAt_22 : lk t_X10_isAt 22 = some (.ireturn, 23, 1, [], .returned) := rfl
abbrev q_X10_week : MI := (yX10_week, cX10_week, 3, none)
def t_X10_week : Tab := [(0, [], (.iconst 0, 1, 0, [], .constant "" 0 (0))),
  (1, [], (.istore_n 2, 2, 2, [], .returned)),
  (2, [], (.iload_n 2, 3, 2, [], .returned)),
  (3, [], (.aload_n 0, 4, 0, [], .returned)),
  (4, [1061], (.getfield 17, 7, 10, [12, 2], .returned)),
  (7, [], (.iconst 5, 8, 0, [], .constant "" 0 (5))),
  (8, [], (.iaload, 9, 0, [], .returned)),
  (9, [], (.if_icmp .ge 65, 12, 74, [], .returned)),
  (12, [], (.aload_n 0, 13, 0, [], .returned)),
  (13, [1061], (.getfield 17, 16, 10, [12, 2], .returned)),
  (16, [], (.bipush 69, 18, 0, [], .constant "" 0 (69))),
  (18, [], (.iload_n 2, 19, 2, [], .returned)),
  (19, [], (.iadd, 20, 0, [], .returned)),
  (20, [], (.iaload, 21, 0, [], .returned)),
  (21, [], (.ifCond .ne 47, 24, 68, [], .returned)),
  (24, [], (.aload_n 0, 25, 0, [], .returned)),
  (25, [], (.iload_n 1, 26, 1, [], .returned)),
  (26, [], (.iload_n 2, 27, 2, [], .returned)),
  (27, [1343, 1346, 1345, 60, 102], (.invokevirtual 239, 30, 0, [2, 10, 0, 0], .code yX10_isLive cX10_isLive 3 (some .boolean))),
  (30, [], (.ifCond .eq 38, 33, 68, [], .returned)),
  (33, [], (.aload_n 0, 34, 0, [], .returned)),
  (34, [1067], (.getfield 31, 37, 10, [18, 2], .returned)),
  (37, [], (.iload_n 1, 38, 1, [], .returned)),
  (38, [], (.iload_n 2, 39, 2, [], .returned)),
  (39, [], (.iadd, 40, 0, [], .returned)),
  (40, [], (.aload_n 0, 41, 0, [], .returned)),
  (41, [], (.iload_n 1, 42, 1, [], .returned)),
  (42, [], (.iload_n 2, 43, 2, [], .returned)),
  (43, [1347, 1350, 1349, 61, 102], (.invokevirtual 236, 46, 0, [2, 10, 0, 0], .code yX10_restOf cX10_restOf 3 (some .int))),
  (46, [], (.aload_n 0, 47, 0, [], .returned)),
  (47, [1067], (.getfield 31, 50, 10, [18, 2], .returned)),
  (50, [], (.iload_n 1, 51, 1, [], .returned)),
  (51, [], (.iload_n 2, 52, 2, [], .returned)),
  (52, [], (.iadd, 53, 0, [], .returned)),
  (53, [], (.iaload, 54, 0, [], .returned)),
  (54, [], (.aload_n 0, 55, 0, [], .returned)),
  (55, [1061], (.getfield 17, 58, 10, [12, 2], .returned)),
  (58, [], (.bipush 75, 60, 0, [], .constant "" 0 (75))),
  (60, [], (.iload_n 2, 61, 2, [], .returned)),
  (61, [], (.iadd, 62, 0, [], .returned)),
  (62, [], (.iaload, 63, 0, [], .returned)),
  (63, [], (.iadd, 64, 0, [], .returned)),
  (64, [1391, 1393, 1392, 102], (.invokestatic 243, 67, 0, [2, 0, 0], .code yX10_lesser cX10_lesser 2 (some .int))),
  (67, [], (.iastore, 68, 0, [], .returned)),
  (68, [], (.iinc 2 1, 71, 2, [], .constant "" 0 (1))),
  (71, [], (.goto (-69), 74, 2, [], .returned)),
  (74, [], (.return_, 75, 0, [], .returned))]
theorem ck_X10_week : okT q_X10_week t_X10_week = true := by decide +kernel
theorem e_X10_week_0 : lk t_X10_week 0 = some (.iconst 0, 1, 0, [], .constant "" 0 (0)) := rfl
theorem e_X10_week_1 : lk t_X10_week 1 = some (.istore_n 2, 2, 2, [], .returned) := rfl
theorem e_X10_week_2 : lk t_X10_week 2 = some (.iload_n 2, 3, 2, [], .returned) := rfl
theorem e_X10_week_3 : lk t_X10_week 3 = some (.aload_n 0, 4, 0, [], .returned) := rfl
theorem e_X10_week_4 : lk t_X10_week 4 = some (.getfield 17, 7, 10, [12, 2], .returned) := rfl
theorem e_X10_week_7 : lk t_X10_week 7 = some (.iconst 5, 8, 0, [], .constant "" 0 (5)) := rfl
theorem e_X10_week_8 : lk t_X10_week 8 = some (.iaload, 9, 0, [], .returned) := rfl
theorem e_X10_week_9 : lk t_X10_week 9 = some (.if_icmp .ge 65, 12, 74, [], .returned) := rfl
theorem e_X10_week_12 : lk t_X10_week 12 = some (.aload_n 0, 13, 0, [], .returned) := rfl
theorem e_X10_week_13 : lk t_X10_week 13 = some (.getfield 17, 16, 10, [12, 2], .returned) := rfl
theorem e_X10_week_16 : lk t_X10_week 16 = some (.bipush 69, 18, 0, [], .constant "" 0 (69)) := rfl
theorem e_X10_week_18 : lk t_X10_week 18 = some (.iload_n 2, 19, 2, [], .returned) := rfl
theorem e_X10_week_19 : lk t_X10_week 19 = some (.iadd, 20, 0, [], .returned) := rfl
theorem e_X10_week_20 : lk t_X10_week 20 = some (.iaload, 21, 0, [], .returned) := rfl
theorem e_X10_week_21 : lk t_X10_week 21 = some (.ifCond .ne 47, 24, 68, [], .returned) := rfl
theorem e_X10_week_24 : lk t_X10_week 24 = some (.aload_n 0, 25, 0, [], .returned) := rfl
theorem e_X10_week_25 : lk t_X10_week 25 = some (.iload_n 1, 26, 1, [], .returned) := rfl
theorem e_X10_week_26 : lk t_X10_week 26 = some (.iload_n 2, 27, 2, [], .returned) := rfl
theorem e_X10_week_27 : lk t_X10_week 27 = some (.invokevirtual 239, 30, 0, [2, 10, 0, 0], .code yX10_isLive cX10_isLive 3 (some .boolean)) := rfl
theorem e_X10_week_30 : lk t_X10_week 30 = some (.ifCond .eq 38, 33, 68, [], .returned) := rfl
theorem e_X10_week_33 : lk t_X10_week 33 = some (.aload_n 0, 34, 0, [], .returned) := rfl
theorem e_X10_week_34 : lk t_X10_week 34 = some (.getfield 31, 37, 10, [18, 2], .returned) := rfl
theorem e_X10_week_37 : lk t_X10_week 37 = some (.iload_n 1, 38, 1, [], .returned) := rfl
theorem e_X10_week_38 : lk t_X10_week 38 = some (.iload_n 2, 39, 2, [], .returned) := rfl
theorem e_X10_week_39 : lk t_X10_week 39 = some (.iadd, 40, 0, [], .returned) := rfl
theorem e_X10_week_40 : lk t_X10_week 40 = some (.aload_n 0, 41, 0, [], .returned) := rfl
theorem e_X10_week_41 : lk t_X10_week 41 = some (.iload_n 1, 42, 1, [], .returned) := rfl
theorem e_X10_week_42 : lk t_X10_week 42 = some (.iload_n 2, 43, 2, [], .returned) := rfl
theorem e_X10_week_43 : lk t_X10_week 43 = some (.invokevirtual 236, 46, 0, [2, 10, 0, 0], .code yX10_restOf cX10_restOf 3 (some .int)) := rfl
theorem e_X10_week_46 : lk t_X10_week 46 = some (.aload_n 0, 47, 0, [], .returned) := rfl
theorem e_X10_week_47 : lk t_X10_week 47 = some (.getfield 31, 50, 10, [18, 2], .returned) := rfl
theorem e_X10_week_50 : lk t_X10_week 50 = some (.iload_n 1, 51, 1, [], .returned) := rfl
theorem e_X10_week_51 : lk t_X10_week 51 = some (.iload_n 2, 52, 2, [], .returned) := rfl
theorem e_X10_week_52 : lk t_X10_week 52 = some (.iadd, 53, 0, [], .returned) := rfl
theorem e_X10_week_53 : lk t_X10_week 53 = some (.iaload, 54, 0, [], .returned) := rfl
theorem e_X10_week_54 : lk t_X10_week 54 = some (.aload_n 0, 55, 0, [], .returned) := rfl
theorem e_X10_week_55 : lk t_X10_week 55 = some (.getfield 17, 58, 10, [12, 2], .returned) := rfl
theorem e_X10_week_58 : lk t_X10_week 58 = some (.bipush 75, 60, 0, [], .constant "" 0 (75)) := rfl
theorem e_X10_week_60 : lk t_X10_week 60 = some (.iload_n 2, 61, 2, [], .returned) := rfl
theorem e_X10_week_61 : lk t_X10_week 61 = some (.iadd, 62, 0, [], .returned) := rfl
theorem e_X10_week_62 : lk t_X10_week 62 = some (.iaload, 63, 0, [], .returned) := rfl
theorem e_X10_week_63 : lk t_X10_week 63 = some (.iadd, 64, 0, [], .returned) := rfl
theorem e_X10_week_64 : lk t_X10_week 64 = some (.invokestatic 243, 67, 0, [2, 0, 0], .code yX10_lesser cX10_lesser 2 (some .int)) := rfl
theorem e_X10_week_67 : lk t_X10_week 67 = some (.iastore, 68, 0, [], .returned) := rfl
theorem e_X10_week_68 : lk t_X10_week 68 = some (.iinc 2 1, 71, 2, [], .constant "" 0 (1)) := rfl
theorem e_X10_week_71 : lk t_X10_week 71 = some (.goto (-69), 74, 2, [], .returned) := rfl
theorem e_X10_week_74 : lk t_X10_week 74 = some (.return_, 75, 0, [], .returned) := rfl
abbrev q_X10_fromOf : MI := (yX10_fromOf, cX10_fromOf, 4, (some .int))
def t_X10_fromOf : Tab := [(0, [], (.aload_n 0, 1, 0, [], .returned)),
  (1, [1061], (.getfield 17, 4, 10, [12, 2], .returned)),
  (4, [], (.bipush 12, 6, 0, [], .constant "" 0 (12))),
  (6, [], (.bipush 6, 8, 0, [], .constant "" 0 (6))),
  (8, [], (.iload_n 1, 9, 1, [], .returned)),
  (9, [], (.imul, 10, 0, [], .returned)),
  (10, [], (.iadd, 11, 0, [], .returned)),
  (11, [], (.iload_n 2, 12, 2, [], .returned)),
  (12, [], (.iadd, 13, 0, [], .returned)),
  (13, [], (.iaload, 14, 0, [], .returned)),
  (14, [], (.iload_n 3, 15, 3, [], .returned)),
  (15, [], (.imul, 16, 0, [], .returned)),
  (16, [], (.ireturn, 17, 0, [], .returned))]
theorem ck_X10_fromOf : okT q_X10_fromOf t_X10_fromOf = true := by decide +kernel
theorem e_X10_fromOf_0 : lk t_X10_fromOf 0 = some (.aload_n 0, 1, 0, [], .returned) := rfl
theorem e_X10_fromOf_1 : lk t_X10_fromOf 1 = some (.getfield 17, 4, 10, [12, 2], .returned) := rfl
theorem e_X10_fromOf_4 : lk t_X10_fromOf 4 = some (.bipush 12, 6, 0, [], .constant "" 0 (12)) := rfl
theorem e_X10_fromOf_6 : lk t_X10_fromOf 6 = some (.bipush 6, 8, 0, [], .constant "" 0 (6)) := rfl
theorem e_X10_fromOf_8 : lk t_X10_fromOf 8 = some (.iload_n 1, 9, 1, [], .returned) := rfl
theorem e_X10_fromOf_9 : lk t_X10_fromOf 9 = some (.imul, 10, 0, [], .returned) := rfl
theorem e_X10_fromOf_10 : lk t_X10_fromOf 10 = some (.iadd, 11, 0, [], .returned) := rfl
theorem e_X10_fromOf_11 : lk t_X10_fromOf 11 = some (.iload_n 2, 12, 2, [], .returned) := rfl
theorem e_X10_fromOf_12 : lk t_X10_fromOf 12 = some (.iadd, 13, 0, [], .returned) := rfl
theorem e_X10_fromOf_13 : lk t_X10_fromOf 13 = some (.iaload, 14, 0, [], .returned) := rfl
theorem e_X10_fromOf_14 : lk t_X10_fromOf 14 = some (.iload_n 3, 15, 3, [], .returned) := rfl
theorem e_X10_fromOf_15 : lk t_X10_fromOf 15 = some (.imul, 16, 0, [], .returned) := rfl
theorem e_X10_fromOf_16 : lk t_X10_fromOf 16 = some (.ireturn, 17, 0, [], .returned) := rfl
abbrev q_X10_tableOf : MI := (yX10_tableOf, cX10_tableOf, 9, (some .int))
def t_X10_tableOf : Tab := [(0, [], (.iconst 0, 1, 0, [], .constant "" 0 (0))),
  (1, [], (.istore 4, 3, 4, [], .returned)),
  (3, [], (.iconst 0, 4, 0, [], .constant "" 0 (0))),
  (4, [], (.istore 5, 6, 5, [], .returned)),
  (6, [], (.iload 5, 8, 5, [], .returned)),
  (8, [], (.aload_n 0, 9, 0, [], .returned)),
  (9, [1061], (.getfield 17, 12, 10, [12, 2], .returned)),
  (12, [], (.bipush 9, 14, 0, [], .constant "" 0 (9))),
  (14, [], (.iload_n 1, 15, 1, [], .returned)),
  (15, [], (.iadd, 16, 0, [], .returned)),
  (16, [], (.iaload, 17, 0, [], .returned)),
  (17, [], (.if_icmp .ge 120, 20, 137, [], .returned)),
  (20, [], (.aload_n 0, 21, 0, [], .returned)),
  (21, [], (.iload_n 1, 22, 1, [], .returned)),
  (22, [], (.iload 5, 24, 5, [], .returned)),
  (24, [], (.iload_n 3, 25, 3, [], .returned)),
  (25, [1387, 1390, 1389, 67, 102], (.invokevirtual 246, 28, 0, [3, 10, 0, 0], .code yX10_fromOf cX10_fromOf 4 (some .int))),
  (28, [], (.istore 6, 30, 6, [], .returned)),
  (30, [], (.iload_n 2, 31, 2, [], .returned)),
  (31, [], (.iload 6, 33, 6, [], .returned)),
  (33, [], (.if_icmp .ge 6, 36, 39, [], .returned)),
  (36, [], (.goto 95, 39, 131, [], .returned)),
  (39, [], (.iload 5, 41, 5, [], .returned)),
  (41, [], (.iconst 1, 42, 0, [], .constant "" 0 (1))),
  (42, [], (.iadd, 43, 0, [], .returned)),
  (43, [], (.aload_n 0, 44, 0, [], .returned)),
  (44, [1061], (.getfield 17, 47, 10, [12, 2], .returned)),
  (47, [], (.bipush 9, 49, 0, [], .constant "" 0 (9))),
  (49, [], (.iload_n 1, 50, 1, [], .returned)),
  (50, [], (.iadd, 51, 0, [], .returned)),
  (51, [], (.iaload, 52, 0, [], .returned)),
  (52, [], (.if_icmp .ge 20, 55, 72, [], .returned)),
  (55, [], (.iload_n 2, 56, 2, [], .returned)),
  (56, [], (.aload_n 0, 57, 0, [], .returned)),
  (57, [], (.iload_n 1, 58, 1, [], .returned)),
  (58, [], (.iload 5, 60, 5, [], .returned)),
  (60, [], (.iconst 1, 61, 0, [], .constant "" 0 (1))),
  (61, [], (.iadd, 62, 0, [], .returned)),
  (62, [], (.iload_n 3, 63, 3, [], .returned)),
  (63, [1387, 1390, 1389, 67, 102], (.invokevirtual 246, 66, 0, [3, 10, 0, 0], .code yX10_fromOf cX10_fromOf 4 (some .int))),
  (66, [1391, 1393, 1392, 102], (.invokestatic 243, 69, 0, [2, 0, 0], .code yX10_lesser cX10_lesser 2 (some .int))),
  (69, [], (.goto 4, 72, 73, [], .returned)),
  (72, [], (.iload_n 2, 73, 2, [], .returned)),
  (73, [], (.istore 7, 75, 7, [], .returned)),
  (75, [], (.aload_n 0, 76, 0, [], .returned)),
  (76, [1061], (.getfield 17, 79, 10, [12, 2], .returned)),
  (79, [], (.bipush 30, 81, 0, [], .constant "" 0 (30))),
  (81, [], (.bipush 6, 83, 0, [], .constant "" 0 (6))),
  (83, [], (.iload_n 1, 84, 1, [], .returned)),
  (84, [], (.imul, 85, 0, [], .returned)),
  (85, [], (.iadd, 86, 0, [], .returned)),
  (86, [], (.iload 5, 88, 5, [], .returned)),
  (88, [], (.iadd, 89, 0, [], .returned)),
  (89, [], (.iaload, 90, 0, [], .returned)),
  (90, [], (.istore 8, 92, 8, [], .returned)),
  (92, [], (.aload_n 0, 93, 0, [], .returned)),
  (93, [1061], (.getfield 17, 96, 10, [12, 2], .returned)),
  (96, [], (.bipush 6, 98, 0, [], .constant "" 0 (6))),
  (98, [], (.iload_n 1, 99, 1, [], .returned)),
  (99, [], (.iadd, 100, 0, [], .returned)),
  (100, [], (.iaload, 101, 0, [], .returned)),
  (101, [], (.iconst 1, 102, 0, [], .constant "" 0 (1))),
  (102, [], (.if_icmp .ne 13, 105, 115, [], .returned)),
  (105, [], (.iload_n 2, 106, 2, [], .returned)),
  (106, [], (.iload 8, 108, 8, [], .returned)),
  (108, [], (.imul, 109, 0, [], .returned)),
  (109, [], (.bipush 100, 111, 0, [], .constant "" 0 (100))),
  (111, [], (.idiv, 112, 0, [], .returned)),
  (112, [], (.goto 17, 115, 129, [], .returned)),
  (115, [], (.iload 4, 117, 4, [], .returned)),
  (117, [], (.iload 7, 119, 7, [], .returned)),
  (119, [], (.iload 6, 121, 6, [], .returned)),
  (121, [], (.isub, 122, 0, [], .returned)),
  (122, [], (.iload 8, 124, 8, [], .returned)),
  (124, [], (.imul, 125, 0, [], .returned)),
  (125, [], (.bipush 100, 127, 0, [], .constant "" 0 (100))),
  (127, [], (.idiv, 128, 0, [], .returned)),
  (128, [], (.iadd, 129, 0, [], .returned)),
  (129, [], (.istore 4, 131, 4, [], .returned)),
  (131, [], (.iinc 5 1, 134, 5, [], .constant "" 0 (1))),
  (134, [], (.goto (-128), 137, 6, [], .returned)),
  (137, [], (.iload 4, 139, 4, [], .returned)),
  (139, [], (.ireturn, 140, 0, [], .returned))]
theorem ck_X10_tableOf : okT q_X10_tableOf t_X10_tableOf = true := by decide +kernel
theorem e_X10_tableOf_0 : lk t_X10_tableOf 0 = some (.iconst 0, 1, 0, [], .constant "" 0 (0)) := rfl
theorem e_X10_tableOf_1 : lk t_X10_tableOf 1 = some (.istore 4, 3, 4, [], .returned) := rfl
theorem e_X10_tableOf_3 : lk t_X10_tableOf 3 = some (.iconst 0, 4, 0, [], .constant "" 0 (0)) := rfl
theorem e_X10_tableOf_4 : lk t_X10_tableOf 4 = some (.istore 5, 6, 5, [], .returned) := rfl
theorem e_X10_tableOf_6 : lk t_X10_tableOf 6 = some (.iload 5, 8, 5, [], .returned) := rfl
theorem e_X10_tableOf_8 : lk t_X10_tableOf 8 = some (.aload_n 0, 9, 0, [], .returned) := rfl
theorem e_X10_tableOf_9 : lk t_X10_tableOf 9 = some (.getfield 17, 12, 10, [12, 2], .returned) := rfl
theorem e_X10_tableOf_12 : lk t_X10_tableOf 12 = some (.bipush 9, 14, 0, [], .constant "" 0 (9)) := rfl
theorem e_X10_tableOf_14 : lk t_X10_tableOf 14 = some (.iload_n 1, 15, 1, [], .returned) := rfl
theorem e_X10_tableOf_15 : lk t_X10_tableOf 15 = some (.iadd, 16, 0, [], .returned) := rfl
theorem e_X10_tableOf_16 : lk t_X10_tableOf 16 = some (.iaload, 17, 0, [], .returned) := rfl
theorem e_X10_tableOf_17 : lk t_X10_tableOf 17 = some (.if_icmp .ge 120, 20, 137, [], .returned) := rfl
theorem e_X10_tableOf_20 : lk t_X10_tableOf 20 = some (.aload_n 0, 21, 0, [], .returned) := rfl
theorem e_X10_tableOf_21 : lk t_X10_tableOf 21 = some (.iload_n 1, 22, 1, [], .returned) := rfl
theorem e_X10_tableOf_22 : lk t_X10_tableOf 22 = some (.iload 5, 24, 5, [], .returned) := rfl
theorem e_X10_tableOf_24 : lk t_X10_tableOf 24 = some (.iload_n 3, 25, 3, [], .returned) := rfl
theorem e_X10_tableOf_25 : lk t_X10_tableOf 25 = some (.invokevirtual 246, 28, 0, [3, 10, 0, 0], .code yX10_fromOf cX10_fromOf 4 (some .int)) := rfl
theorem e_X10_tableOf_28 : lk t_X10_tableOf 28 = some (.istore 6, 30, 6, [], .returned) := rfl
theorem e_X10_tableOf_30 : lk t_X10_tableOf 30 = some (.iload_n 2, 31, 2, [], .returned) := rfl
theorem e_X10_tableOf_31 : lk t_X10_tableOf 31 = some (.iload 6, 33, 6, [], .returned) := rfl
theorem e_X10_tableOf_33 : lk t_X10_tableOf 33 = some (.if_icmp .ge 6, 36, 39, [], .returned) := rfl
theorem e_X10_tableOf_36 : lk t_X10_tableOf 36 = some (.goto 95, 39, 131, [], .returned) := rfl
theorem e_X10_tableOf_39 : lk t_X10_tableOf 39 = some (.iload 5, 41, 5, [], .returned) := rfl
theorem e_X10_tableOf_41 : lk t_X10_tableOf 41 = some (.iconst 1, 42, 0, [], .constant "" 0 (1)) := rfl
theorem e_X10_tableOf_42 : lk t_X10_tableOf 42 = some (.iadd, 43, 0, [], .returned) := rfl
theorem e_X10_tableOf_43 : lk t_X10_tableOf 43 = some (.aload_n 0, 44, 0, [], .returned) := rfl
theorem e_X10_tableOf_44 : lk t_X10_tableOf 44 = some (.getfield 17, 47, 10, [12, 2], .returned) := rfl
theorem e_X10_tableOf_47 : lk t_X10_tableOf 47 = some (.bipush 9, 49, 0, [], .constant "" 0 (9)) := rfl
theorem e_X10_tableOf_49 : lk t_X10_tableOf 49 = some (.iload_n 1, 50, 1, [], .returned) := rfl
theorem e_X10_tableOf_50 : lk t_X10_tableOf 50 = some (.iadd, 51, 0, [], .returned) := rfl
theorem e_X10_tableOf_51 : lk t_X10_tableOf 51 = some (.iaload, 52, 0, [], .returned) := rfl
theorem e_X10_tableOf_52 : lk t_X10_tableOf 52 = some (.if_icmp .ge 20, 55, 72, [], .returned) := rfl
theorem e_X10_tableOf_55 : lk t_X10_tableOf 55 = some (.iload_n 2, 56, 2, [], .returned) := rfl
theorem e_X10_tableOf_56 : lk t_X10_tableOf 56 = some (.aload_n 0, 57, 0, [], .returned) := rfl
theorem e_X10_tableOf_57 : lk t_X10_tableOf 57 = some (.iload_n 1, 58, 1, [], .returned) := rfl
theorem e_X10_tableOf_58 : lk t_X10_tableOf 58 = some (.iload 5, 60, 5, [], .returned) := rfl
theorem e_X10_tableOf_60 : lk t_X10_tableOf 60 = some (.iconst 1, 61, 0, [], .constant "" 0 (1)) := rfl
theorem e_X10_tableOf_61 : lk t_X10_tableOf 61 = some (.iadd, 62, 0, [], .returned) := rfl
theorem e_X10_tableOf_62 : lk t_X10_tableOf 62 = some (.iload_n 3, 63, 3, [], .returned) := rfl
theorem e_X10_tableOf_63 : lk t_X10_tableOf 63 = some (.invokevirtual 246, 66, 0, [3, 10, 0, 0], .code yX10_fromOf cX10_fromOf 4 (some .int)) := rfl
theorem e_X10_tableOf_66 : lk t_X10_tableOf 66 = some (.invokestatic 243, 69, 0, [2, 0, 0], .code yX10_lesser cX10_lesser 2 (some .int)) := rfl
theorem e_X10_tableOf_69 : lk t_X10_tableOf 69 = some (.goto 4, 72, 73, [], .returned) := rfl
theorem e_X10_tableOf_72 : lk t_X10_tableOf 72 = some (.iload_n 2, 73, 2, [], .returned) := rfl
theorem e_X10_tableOf_73 : lk t_X10_tableOf 73 = some (.istore 7, 75, 7, [], .returned) := rfl
theorem e_X10_tableOf_75 : lk t_X10_tableOf 75 = some (.aload_n 0, 76, 0, [], .returned) := rfl
theorem e_X10_tableOf_76 : lk t_X10_tableOf 76 = some (.getfield 17, 79, 10, [12, 2], .returned) := rfl
theorem e_X10_tableOf_79 : lk t_X10_tableOf 79 = some (.bipush 30, 81, 0, [], .constant "" 0 (30)) := rfl
theorem e_X10_tableOf_81 : lk t_X10_tableOf 81 = some (.bipush 6, 83, 0, [], .constant "" 0 (6)) := rfl
theorem e_X10_tableOf_83 : lk t_X10_tableOf 83 = some (.iload_n 1, 84, 1, [], .returned) := rfl
theorem e_X10_tableOf_84 : lk t_X10_tableOf 84 = some (.imul, 85, 0, [], .returned) := rfl
theorem e_X10_tableOf_85 : lk t_X10_tableOf 85 = some (.iadd, 86, 0, [], .returned) := rfl
theorem e_X10_tableOf_86 : lk t_X10_tableOf 86 = some (.iload 5, 88, 5, [], .returned) := rfl
theorem e_X10_tableOf_88 : lk t_X10_tableOf 88 = some (.iadd, 89, 0, [], .returned) := rfl
theorem e_X10_tableOf_89 : lk t_X10_tableOf 89 = some (.iaload, 90, 0, [], .returned) := rfl
theorem e_X10_tableOf_90 : lk t_X10_tableOf 90 = some (.istore 8, 92, 8, [], .returned) := rfl
theorem e_X10_tableOf_92 : lk t_X10_tableOf 92 = some (.aload_n 0, 93, 0, [], .returned) := rfl
theorem e_X10_tableOf_93 : lk t_X10_tableOf 93 = some (.getfield 17, 96, 10, [12, 2], .returned) := rfl
theorem e_X10_tableOf_96 : lk t_X10_tableOf 96 = some (.bipush 6, 98, 0, [], .constant "" 0 (6)) := rfl
theorem e_X10_tableOf_98 : lk t_X10_tableOf 98 = some (.iload_n 1, 99, 1, [], .returned) := rfl
theorem e_X10_tableOf_99 : lk t_X10_tableOf 99 = some (.iadd, 100, 0, [], .returned) := rfl
theorem e_X10_tableOf_100 : lk t_X10_tableOf 100 = some (.iaload, 101, 0, [], .returned) := rfl
theorem e_X10_tableOf_101 : lk t_X10_tableOf 101 = some (.iconst 1, 102, 0, [], .constant "" 0 (1)) := rfl
theorem e_X10_tableOf_102 : lk t_X10_tableOf 102 = some (.if_icmp .ne 13, 105, 115, [], .returned) := rfl
theorem e_X10_tableOf_105 : lk t_X10_tableOf 105 = some (.iload_n 2, 106, 2, [], .returned) := rfl
theorem e_X10_tableOf_106 : lk t_X10_tableOf 106 = some (.iload 8, 108, 8, [], .returned) := rfl
theorem e_X10_tableOf_108 : lk t_X10_tableOf 108 = some (.imul, 109, 0, [], .returned) := rfl
theorem e_X10_tableOf_109 : lk t_X10_tableOf 109 = some (.bipush 100, 111, 0, [], .constant "" 0 (100)) := rfl
theorem e_X10_tableOf_111 : lk t_X10_tableOf 111 = some (.idiv, 112, 0, [], .returned) := rfl
theorem e_X10_tableOf_112 : lk t_X10_tableOf 112 = some (.goto 17, 115, 129, [], .returned) := rfl
theorem e_X10_tableOf_115 : lk t_X10_tableOf 115 = some (.iload 4, 117, 4, [], .returned) := rfl
theorem e_X10_tableOf_117 : lk t_X10_tableOf 117 = some (.iload 7, 119, 7, [], .returned) := rfl
theorem e_X10_tableOf_119 : lk t_X10_tableOf 119 = some (.iload 6, 121, 6, [], .returned) := rfl
theorem e_X10_tableOf_121 : lk t_X10_tableOf 121 = some (.isub, 122, 0, [], .returned) := rfl
theorem e_X10_tableOf_122 : lk t_X10_tableOf 122 = some (.iload 8, 124, 8, [], .returned) := rfl
theorem e_X10_tableOf_124 : lk t_X10_tableOf 124 = some (.imul, 125, 0, [], .returned) := rfl
theorem e_X10_tableOf_125 : lk t_X10_tableOf 125 = some (.bipush 100, 127, 0, [], .constant "" 0 (100)) := rfl
theorem e_X10_tableOf_127 : lk t_X10_tableOf 127 = some (.idiv, 128, 0, [], .returned) := rfl
theorem e_X10_tableOf_128 : lk t_X10_tableOf 128 = some (.iadd, 129, 0, [], .returned) := rfl
theorem e_X10_tableOf_129 : lk t_X10_tableOf 129 = some (.istore 4, 131, 4, [], .returned) := rfl
theorem e_X10_tableOf_131 : lk t_X10_tableOf 131 = some (.iinc 5 1, 134, 5, [], .constant "" 0 (1)) := rfl
theorem e_X10_tableOf_134 : lk t_X10_tableOf 134 = some (.goto (-128), 137, 6, [], .returned) := rfl
theorem e_X10_tableOf_137 : lk t_X10_tableOf 137 = some (.iload 4, 139, 4, [], .returned) := rfl
theorem e_X10_tableOf_139 : lk t_X10_tableOf 139 = some (.ireturn, 140, 0, [], .returned) := rfl
