def t_L0 : Tab := [(0, [113, 114, 92], (.new 8, 3, 9, [], .returned)),
  (3, [], (.dup, 4, 0, [], .returned)),
  (4, [115, 117, 116, 92], (.invokespecial 15, 7, 0, [0, 88, 1199], .code yX9_init cX9_init 1 none)),
  (7, [], (.astore_n 1, 8, 1, [], .returned)),
  (8, [1043, 1044, 102], (.new 16, 11, 10, [], .returned)),
  (11, [], (.dup, 12, 0, [], .returned)),
  (12, [1045, 1047, 1046, 102], (.invokespecial 18, 15, 0, [0, 16, 973], .code yX10_init cX10_init 1 none)),
  (15, [], (.astore_n 2, 16, 2, [], .returned)),
  (16, [], (.iconst 1, 17, 0, [], .constant "" 0 (1))),
  (17, [177], (.newarray .long, 19, 3, [], .returned)),
  (19, [], (.astore_n 3, 20, 3, [], .returned)),
  (20, [], (.iconst 0, 21, 0, [], .constant "" 0 (0))),
  (21, [], (.istore 4, 23, 4, [], .returned)),
  (23, [], (.iload 4, 25, 4, [], .returned)),
  (25, [], (.aload_n 0, 26, 0, [], .returned)),
  (26, [], (.arraylength, 27, 0, [], .returned)),
  (27, [], (.bipush 6, 29, 0, [], .constant "" 0 (6))),
  (29, [], (.isub, 30, 0, [], .returned)),
  (30, [], (.if_icmp .gt 1420, 33, 1450, [], .returned)),
  (33, [], (.aload_n 0, 34, 0, [], .returned)),
  (34, [], (.iload 4, 36, 4, [], .returned)),
  (36, [], (.iaload, 37, 0, [], .returned)),
  (37, [], (.bipush 63, 39, 0, [], .constant "" 0 (63))),
  (39, [], (.iand, 40, 0, [], .returned)),
  (40, [], (.tableswitch 1404 0 32 #[148, 221, 246, 259, 272, 297, 334, 371, 420, 469, 506, 555, 592, 641, 702, 739, 788, 825, 862, 899, 960, 985, 1010, 1047, 1100, 1137, 1174, 1211, 1248, 1285, 1310, 1378, 1391], 188, 1444, [188, 261, 286, 299, 312, 337, 374, 411, 460, 509, 546, 595, 632, 681, 742, 779, 828, 865, 902, 939, 1000, 1025, 1050, 1087, 1140, 1177, 1214, 1251, 1288, 1325, 1350, 1418, 1431], .returned))]
theorem ck_L0 : okT q_L_law t_L0 = true := by decide +kernel
theorem e_L0_0 : lk t_L0 0 = some (.new 8, 3, 9, [], .returned) := rfl
theorem e_L0_3 : lk t_L0 3 = some (.dup, 4, 0, [], .returned) := rfl
theorem e_L0_4 : lk t_L0 4 = some (.invokespecial 15, 7, 0, [0, 88, 1199], .code yX9_init cX9_init 1 none) := rfl
theorem e_L0_7 : lk t_L0 7 = some (.astore_n 1, 8, 1, [], .returned) := rfl
theorem e_L0_8 : lk t_L0 8 = some (.new 16, 11, 10, [], .returned) := rfl
theorem e_L0_11 : lk t_L0 11 = some (.dup, 12, 0, [], .returned) := rfl
theorem e_L0_12 : lk t_L0 12 = some (.invokespecial 18, 15, 0, [0, 16, 973], .code yX10_init cX10_init 1 none) := rfl
theorem e_L0_15 : lk t_L0 15 = some (.astore_n 2, 16, 2, [], .returned) := rfl
theorem e_L0_16 : lk t_L0 16 = some (.iconst 1, 17, 0, [], .constant "" 0 (1)) := rfl
theorem e_L0_17 : lk t_L0 17 = some (.newarray .long, 19, 3, [], .returned) := rfl
theorem e_L0_19 : lk t_L0 19 = some (.astore_n 3, 20, 3, [], .returned) := rfl
theorem e_L0_20 : lk t_L0 20 = some (.iconst 0, 21, 0, [], .constant "" 0 (0)) := rfl
theorem e_L0_21 : lk t_L0 21 = some (.istore 4, 23, 4, [], .returned) := rfl
theorem e_L0_23 : lk t_L0 23 = some (.iload 4, 25, 4, [], .returned) := rfl
theorem e_L0_25 : lk t_L0 25 = some (.aload_n 0, 26, 0, [], .returned) := rfl
theorem e_L0_26 : lk t_L0 26 = some (.arraylength, 27, 0, [], .returned) := rfl
theorem e_L0_27 : lk t_L0 27 = some (.bipush 6, 29, 0, [], .constant "" 0 (6)) := rfl
theorem e_L0_29 : lk t_L0 29 = some (.isub, 30, 0, [], .returned) := rfl
theorem e_L0_30 : lk t_L0 30 = some (.if_icmp .gt 1420, 33, 1450, [], .returned) := rfl
theorem e_L0_33 : lk t_L0 33 = some (.aload_n 0, 34, 0, [], .returned) := rfl
theorem e_L0_34 : lk t_L0 34 = some (.iload 4, 36, 4, [], .returned) := rfl
theorem e_L0_36 : lk t_L0 36 = some (.iaload, 37, 0, [], .returned) := rfl
theorem e_L0_37 : lk t_L0 37 = some (.bipush 63, 39, 0, [], .constant "" 0 (63)) := rfl
theorem e_L0_39 : lk t_L0 39 = some (.iand, 40, 0, [], .returned) := rfl
theorem e_L0_40 : lk t_L0 40 = some (.tableswitch 1404 0 32 #[148, 221, 246, 259, 272, 297, 334, 371, 420, 469, 506, 555, 592, 641, 702, 739, 788, 825, 862, 899, 960, 985, 1010, 1047, 1100, 1137, 1174, 1211, 1248, 1285, 1310, 1378, 1391], 188, 1444, [188, 261, 286, 299, 312, 337, 374, 411, 460, 509, 546, 595, 632, 681, 742, 779, 828, 865, 902, 939, 1000, 1025, 1050, 1087, 1140, 1177, 1214, 1251, 1288, 1325, 1350, 1418, 1431], .returned) := rfl
def t_L1 : Tab := [(188, [], (.aload_n 1, 189, 1, [], .returned)),
  (189, [], (.aload_n 0, 190, 0, [], .returned)),
  (190, [], (.iload 4, 192, 4, [], .returned)),
  (192, [], (.iconst 1, 193, 0, [], .constant "" 0 (1))),
  (193, [], (.iadd, 194, 0, [], .returned)),
  (194, [], (.iaload, 195, 0, [], .returned)),
  (195, [], (.aload_n 0, 196, 0, [], .returned)),
  (196, [], (.iload 4, 198, 4, [], .returned)),
  (198, [], (.iconst 2, 199, 0, [], .constant "" 0 (2))),
  (199, [], (.iadd, 200, 0, [], .returned)),
  (200, [], (.iaload, 201, 0, [], .returned)),
  (201, [], (.aload_n 0, 202, 0, [], .returned)),
  (202, [], (.iload 4, 204, 4, [], .returned)),
  (204, [], (.iconst 3, 205, 0, [], .constant "" 0 (3))),
  (205, [], (.iadd, 206, 0, [], .returned)),
  (206, [], (.iaload, 207, 0, [], .returned)),
  (207, [], (.aload_n 0, 208, 0, [], .returned)),
  (208, [], (.iload 4, 210, 4, [], .returned)),
  (210, [], (.iconst 4, 211, 0, [], .constant "" 0 (4))),
  (211, [], (.iadd, 212, 0, [], .returned)),
  (212, [], (.iaload, 213, 0, [], .returned)),
  (213, [], (.aload_n 0, 214, 0, [], .returned)),
  (214, [], (.iload 4, 216, 4, [], .returned)),
  (216, [], (.iconst 5, 217, 0, [], .constant "" 0 (5))),
  (217, [], (.iadd, 218, 0, [], .returned)),
  (218, [], (.iaload, 219, 0, [], .returned)),
  (219, [471, 474, 472, 473, 92], (.invokevirtual 19, 222, 0, [5, 9, 0, 0], .code yX9_feed cX9_feed 6 (some .int))),
  (222, [], (.aload_n 2, 223, 2, [], .returned)),
  (223, [], (.aload_n 0, 224, 0, [], .returned)),
  (224, [], (.iload 4, 226, 4, [], .returned)),
  (226, [], (.iconst 1, 227, 0, [], .constant "" 0 (1))),
  (227, [], (.iadd, 228, 0, [], .returned)),
  (228, [], (.iaload, 229, 0, [], .returned)),
  (229, [], (.aload_n 0, 230, 0, [], .returned)),
  (230, [], (.iload 4, 232, 4, [], .returned)),
  (232, [], (.iconst 2, 233, 0, [], .constant "" 0 (2))),
  (233, [], (.iadd, 234, 0, [], .returned)),
  (234, [], (.iaload, 235, 0, [], .returned)),
  (235, [], (.aload_n 0, 236, 0, [], .returned)),
  (236, [], (.iload 4, 238, 4, [], .returned)),
  (238, [], (.iconst 3, 239, 0, [], .constant "" 0 (3))),
  (239, [], (.iadd, 240, 0, [], .returned)),
  (240, [], (.iaload, 241, 0, [], .returned)),
  (241, [], (.aload_n 0, 242, 0, [], .returned)),
  (242, [], (.iload 4, 244, 4, [], .returned)),
  (244, [], (.iconst 4, 245, 0, [], .constant "" 0 (4))),
  (245, [], (.iadd, 246, 0, [], .returned)),
  (246, [], (.iaload, 247, 0, [], .returned)),
  (247, [], (.aload_n 0, 248, 0, [], .returned)),
  (248, [], (.iload 4, 250, 4, [], .returned)),
  (250, [], (.iconst 5, 251, 0, [], .constant "" 0 (5))),
  (251, [], (.iadd, 252, 0, [], .returned)),
  (252, [], (.iaload, 253, 0, [], .returned)),
  (253, [1150, 1153, 1151, 1152, 102], (.invokevirtual 23, 256, 0, [5, 10, 0, 0], .code yX10_feed cX10_feed 8 (some .int))),
  (256, [], (.if_icmp .eq 1188, 259, 1444, [], .returned)),
  (259, [], (.iconst 0, 260, 0, [], .constant "" 0 (0)))]
theorem ck_L1 : okT q_L_law t_L1 = true := by decide +kernel
theorem e_L1_188 : lk t_L1 188 = some (.aload_n 1, 189, 1, [], .returned) := rfl
theorem e_L1_189 : lk t_L1 189 = some (.aload_n 0, 190, 0, [], .returned) := rfl
theorem e_L1_190 : lk t_L1 190 = some (.iload 4, 192, 4, [], .returned) := rfl
theorem e_L1_192 : lk t_L1 192 = some (.iconst 1, 193, 0, [], .constant "" 0 (1)) := rfl
theorem e_L1_193 : lk t_L1 193 = some (.iadd, 194, 0, [], .returned) := rfl
theorem e_L1_194 : lk t_L1 194 = some (.iaload, 195, 0, [], .returned) := rfl
theorem e_L1_195 : lk t_L1 195 = some (.aload_n 0, 196, 0, [], .returned) := rfl
theorem e_L1_196 : lk t_L1 196 = some (.iload 4, 198, 4, [], .returned) := rfl
theorem e_L1_198 : lk t_L1 198 = some (.iconst 2, 199, 0, [], .constant "" 0 (2)) := rfl
theorem e_L1_199 : lk t_L1 199 = some (.iadd, 200, 0, [], .returned) := rfl
theorem e_L1_200 : lk t_L1 200 = some (.iaload, 201, 0, [], .returned) := rfl
theorem e_L1_201 : lk t_L1 201 = some (.aload_n 0, 202, 0, [], .returned) := rfl
theorem e_L1_202 : lk t_L1 202 = some (.iload 4, 204, 4, [], .returned) := rfl
theorem e_L1_204 : lk t_L1 204 = some (.iconst 3, 205, 0, [], .constant "" 0 (3)) := rfl
theorem e_L1_205 : lk t_L1 205 = some (.iadd, 206, 0, [], .returned) := rfl
theorem e_L1_206 : lk t_L1 206 = some (.iaload, 207, 0, [], .returned) := rfl
theorem e_L1_207 : lk t_L1 207 = some (.aload_n 0, 208, 0, [], .returned) := rfl
theorem e_L1_208 : lk t_L1 208 = some (.iload 4, 210, 4, [], .returned) := rfl
theorem e_L1_210 : lk t_L1 210 = some (.iconst 4, 211, 0, [], .constant "" 0 (4)) := rfl
theorem e_L1_211 : lk t_L1 211 = some (.iadd, 212, 0, [], .returned) := rfl
theorem e_L1_212 : lk t_L1 212 = some (.iaload, 213, 0, [], .returned) := rfl
theorem e_L1_213 : lk t_L1 213 = some (.aload_n 0, 214, 0, [], .returned) := rfl
theorem e_L1_214 : lk t_L1 214 = some (.iload 4, 216, 4, [], .returned) := rfl
theorem e_L1_216 : lk t_L1 216 = some (.iconst 5, 217, 0, [], .constant "" 0 (5)) := rfl
theorem e_L1_217 : lk t_L1 217 = some (.iadd, 218, 0, [], .returned) := rfl
theorem e_L1_218 : lk t_L1 218 = some (.iaload, 219, 0, [], .returned) := rfl
theorem e_L1_219 : lk t_L1 219 = some (.invokevirtual 19, 222, 0, [5, 9, 0, 0], .code yX9_feed cX9_feed 6 (some .int)) := rfl
theorem e_L1_222 : lk t_L1 222 = some (.aload_n 2, 223, 2, [], .returned) := rfl
theorem e_L1_223 : lk t_L1 223 = some (.aload_n 0, 224, 0, [], .returned) := rfl
theorem e_L1_224 : lk t_L1 224 = some (.iload 4, 226, 4, [], .returned) := rfl
theorem e_L1_226 : lk t_L1 226 = some (.iconst 1, 227, 0, [], .constant "" 0 (1)) := rfl
theorem e_L1_227 : lk t_L1 227 = some (.iadd, 228, 0, [], .returned) := rfl
theorem e_L1_228 : lk t_L1 228 = some (.iaload, 229, 0, [], .returned) := rfl
theorem e_L1_229 : lk t_L1 229 = some (.aload_n 0, 230, 0, [], .returned) := rfl
theorem e_L1_230 : lk t_L1 230 = some (.iload 4, 232, 4, [], .returned) := rfl
theorem e_L1_232 : lk t_L1 232 = some (.iconst 2, 233, 0, [], .constant "" 0 (2)) := rfl
theorem e_L1_233 : lk t_L1 233 = some (.iadd, 234, 0, [], .returned) := rfl
theorem e_L1_234 : lk t_L1 234 = some (.iaload, 235, 0, [], .returned) := rfl
theorem e_L1_235 : lk t_L1 235 = some (.aload_n 0, 236, 0, [], .returned) := rfl
theorem e_L1_236 : lk t_L1 236 = some (.iload 4, 238, 4, [], .returned) := rfl
theorem e_L1_238 : lk t_L1 238 = some (.iconst 3, 239, 0, [], .constant "" 0 (3)) := rfl
theorem e_L1_239 : lk t_L1 239 = some (.iadd, 240, 0, [], .returned) := rfl
theorem e_L1_240 : lk t_L1 240 = some (.iaload, 241, 0, [], .returned) := rfl
theorem e_L1_241 : lk t_L1 241 = some (.aload_n 0, 242, 0, [], .returned) := rfl
theorem e_L1_242 : lk t_L1 242 = some (.iload 4, 244, 4, [], .returned) := rfl
theorem e_L1_244 : lk t_L1 244 = some (.iconst 4, 245, 0, [], .constant "" 0 (4)) := rfl
theorem e_L1_245 : lk t_L1 245 = some (.iadd, 246, 0, [], .returned) := rfl
theorem e_L1_246 : lk t_L1 246 = some (.iaload, 247, 0, [], .returned) := rfl
theorem e_L1_247 : lk t_L1 247 = some (.aload_n 0, 248, 0, [], .returned) := rfl
theorem e_L1_248 : lk t_L1 248 = some (.iload 4, 250, 4, [], .returned) := rfl
theorem e_L1_250 : lk t_L1 250 = some (.iconst 5, 251, 0, [], .constant "" 0 (5)) := rfl
theorem e_L1_251 : lk t_L1 251 = some (.iadd, 252, 0, [], .returned) := rfl
theorem e_L1_252 : lk t_L1 252 = some (.iaload, 253, 0, [], .returned) := rfl
theorem e_L1_253 : lk t_L1 253 = some (.invokevirtual 23, 256, 0, [5, 10, 0, 0], .code yX10_feed cX10_feed 8 (some .int)) := rfl
theorem e_L1_256 : lk t_L1 256 = some (.if_icmp .eq 1188, 259, 1444, [], .returned) := rfl
theorem e_L1_259 : lk t_L1 259 = some (.iconst 0, 260, 0, [], .constant "" 0 (0)) := rfl
def t_L2 : Tab := [(261, [], (.aload_n 1, 262, 1, [], .returned)),
  (262, [], (.aload_n 0, 263, 0, [], .returned)),
  (263, [], (.iload 4, 265, 4, [], .returned)),
  (265, [], (.iconst 1, 266, 0, [], .constant "" 0 (1))),
  (266, [], (.iadd, 267, 0, [], .returned)),
  (267, [], (.iaload, 268, 0, [], .returned)),
  (268, [479, 482, 480, 481, 92], (.invokevirtual 24, 271, 0, [1, 9, 0, 0], .code yX9_desk cX9_desk 3 (some .int))),
  (271, [], (.aload_n 2, 272, 2, [], .returned)),
  (272, [], (.aload_n 0, 273, 0, [], .returned)),
  (273, [], (.iload 4, 275, 4, [], .returned)),
  (275, [], (.iconst 1, 276, 0, [], .constant "" 0 (1))),
  (276, [], (.iadd, 277, 0, [], .returned)),
  (277, [], (.iaload, 278, 0, [], .returned)),
  (278, [1154, 1157, 1155, 1156, 102], (.invokevirtual 28, 281, 0, [1, 10, 0, 0], .code yX10_desk cX10_desk 3 (some .int))),
  (281, [], (.if_icmp .eq 1163, 284, 1444, [], .returned)),
  (284, [], (.iconst 0, 285, 0, [], .constant "" 0 (0)))]
theorem ck_L2 : okT q_L_law t_L2 = true := by decide +kernel
theorem e_L2_261 : lk t_L2 261 = some (.aload_n 1, 262, 1, [], .returned) := rfl
theorem e_L2_262 : lk t_L2 262 = some (.aload_n 0, 263, 0, [], .returned) := rfl
theorem e_L2_263 : lk t_L2 263 = some (.iload 4, 265, 4, [], .returned) := rfl
theorem e_L2_265 : lk t_L2 265 = some (.iconst 1, 266, 0, [], .constant "" 0 (1)) := rfl
theorem e_L2_266 : lk t_L2 266 = some (.iadd, 267, 0, [], .returned) := rfl
theorem e_L2_267 : lk t_L2 267 = some (.iaload, 268, 0, [], .returned) := rfl
theorem e_L2_268 : lk t_L2 268 = some (.invokevirtual 24, 271, 0, [1, 9, 0, 0], .code yX9_desk cX9_desk 3 (some .int)) := rfl
theorem e_L2_271 : lk t_L2 271 = some (.aload_n 2, 272, 2, [], .returned) := rfl
theorem e_L2_272 : lk t_L2 272 = some (.aload_n 0, 273, 0, [], .returned) := rfl
theorem e_L2_273 : lk t_L2 273 = some (.iload 4, 275, 4, [], .returned) := rfl
theorem e_L2_275 : lk t_L2 275 = some (.iconst 1, 276, 0, [], .constant "" 0 (1)) := rfl
theorem e_L2_276 : lk t_L2 276 = some (.iadd, 277, 0, [], .returned) := rfl
theorem e_L2_277 : lk t_L2 277 = some (.iaload, 278, 0, [], .returned) := rfl
theorem e_L2_278 : lk t_L2 278 = some (.invokevirtual 28, 281, 0, [1, 10, 0, 0], .code yX10_desk cX10_desk 3 (some .int)) := rfl
theorem e_L2_281 : lk t_L2 281 = some (.if_icmp .eq 1163, 284, 1444, [], .returned) := rfl
theorem e_L2_284 : lk t_L2 284 = some (.iconst 0, 285, 0, [], .constant "" 0 (0)) := rfl
def t_L3 : Tab := [(286, [], (.aload_n 1, 287, 1, [], .returned)),
  (287, [621, 624, 622, 623, 92], (.invokevirtual 29, 290, 0, [0, 9, 0, 0], .code yX9_fault cX9_fault 1 (some .int))),
  (290, [], (.aload_n 2, 291, 2, [], .returned)),
  (291, [1320, 1323, 1321, 1322, 102], (.invokevirtual 33, 294, 0, [0, 10, 0, 0], .code yX10_fault cX10_fault 1 (some .int))),
  (294, [], (.if_icmp .eq 1150, 297, 1444, [], .returned)),
  (297, [], (.iconst 0, 298, 0, [], .constant "" 0 (0)))]
theorem ck_L3 : okT q_L_law t_L3 = true := by decide +kernel
theorem e_L3_286 : lk t_L3 286 = some (.aload_n 1, 287, 1, [], .returned) := rfl
theorem e_L3_287 : lk t_L3 287 = some (.invokevirtual 29, 290, 0, [0, 9, 0, 0], .code yX9_fault cX9_fault 1 (some .int)) := rfl
theorem e_L3_290 : lk t_L3 290 = some (.aload_n 2, 291, 2, [], .returned) := rfl
theorem e_L3_291 : lk t_L3 291 = some (.invokevirtual 33, 294, 0, [0, 10, 0, 0], .code yX10_fault cX10_fault 1 (some .int)) := rfl
theorem e_L3_294 : lk t_L3 294 = some (.if_icmp .eq 1150, 297, 1444, [], .returned) := rfl
theorem e_L3_297 : lk t_L3 297 = some (.iconst 0, 298, 0, [], .constant "" 0 (0)) := rfl
def t_L4 : Tab := [(299, [], (.aload_n 1, 300, 1, [], .returned)),
  (300, [625, 628, 626, 627, 92], (.invokevirtual 34, 303, 0, [0, 9, 0, 0], .code yX9_where cX9_where 1 (some .int))),
  (303, [], (.aload_n 2, 304, 2, [], .returned)),
  (304, [1324, 1327, 1325, 1326, 102], (.invokevirtual 37, 307, 0, [0, 10, 0, 0], .code yX10_where cX10_where 1 (some .int))),
  (307, [], (.if_icmp .eq 1137, 310, 1444, [], .returned)),
  (310, [], (.iconst 0, 311, 0, [], .constant "" 0 (0)))]
theorem ck_L4 : okT q_L_law t_L4 = true := by decide +kernel
theorem e_L4_299 : lk t_L4 299 = some (.aload_n 1, 300, 1, [], .returned) := rfl
theorem e_L4_300 : lk t_L4 300 = some (.invokevirtual 34, 303, 0, [0, 9, 0, 0], .code yX9_where cX9_where 1 (some .int)) := rfl
theorem e_L4_303 : lk t_L4 303 = some (.aload_n 2, 304, 2, [], .returned) := rfl
theorem e_L4_304 : lk t_L4 304 = some (.invokevirtual 37, 307, 0, [0, 10, 0, 0], .code yX10_where cX10_where 1 (some .int)) := rfl
theorem e_L4_307 : lk t_L4 307 = some (.if_icmp .eq 1137, 310, 1444, [], .returned) := rfl
theorem e_L4_310 : lk t_L4 310 = some (.iconst 0, 311, 0, [], .constant "" 0 (0)) := rfl
def t_L5 : Tab := [(312, [], (.aload_n 1, 313, 1, [], .returned)),
  (313, [], (.aload_n 0, 314, 0, [], .returned)),
  (314, [], (.iload 4, 316, 4, [], .returned)),
  (316, [], (.iconst 1, 317, 0, [], .constant "" 0 (1))),
  (317, [], (.iadd, 318, 0, [], .returned)),
  (318, [], (.iaload, 319, 0, [], .returned)),
  (319, [629, 632, 630, 631, 92], (.invokevirtual 38, 322, 0, [1, 9, 0, 0], .code yX9_about cX9_about 2 (some .int))),
  (322, [], (.aload_n 2, 323, 2, [], .returned)),
  (323, [], (.aload_n 0, 324, 0, [], .returned)),
  (324, [], (.iload 4, 326, 4, [], .returned)),
  (326, [], (.iconst 1, 327, 0, [], .constant "" 0 (1))),
  (327, [], (.iadd, 328, 0, [], .returned)),
  (328, [], (.iaload, 329, 0, [], .returned)),
  (329, [1328, 1331, 1329, 1330, 102], (.invokevirtual 41, 332, 0, [1, 10, 0, 0], .code yX10_about cX10_about 2 (some .int))),
  (332, [], (.if_icmp .eq 1112, 335, 1444, [], .returned)),
  (335, [], (.iconst 0, 336, 0, [], .constant "" 0 (0)))]
theorem ck_L5 : okT q_L_law t_L5 = true := by decide +kernel
theorem e_L5_312 : lk t_L5 312 = some (.aload_n 1, 313, 1, [], .returned) := rfl
theorem e_L5_313 : lk t_L5 313 = some (.aload_n 0, 314, 0, [], .returned) := rfl
theorem e_L5_314 : lk t_L5 314 = some (.iload 4, 316, 4, [], .returned) := rfl
theorem e_L5_316 : lk t_L5 316 = some (.iconst 1, 317, 0, [], .constant "" 0 (1)) := rfl
theorem e_L5_317 : lk t_L5 317 = some (.iadd, 318, 0, [], .returned) := rfl
theorem e_L5_318 : lk t_L5 318 = some (.iaload, 319, 0, [], .returned) := rfl
theorem e_L5_319 : lk t_L5 319 = some (.invokevirtual 38, 322, 0, [1, 9, 0, 0], .code yX9_about cX9_about 2 (some .int)) := rfl
theorem e_L5_322 : lk t_L5 322 = some (.aload_n 2, 323, 2, [], .returned) := rfl
theorem e_L5_323 : lk t_L5 323 = some (.aload_n 0, 324, 0, [], .returned) := rfl
theorem e_L5_324 : lk t_L5 324 = some (.iload 4, 326, 4, [], .returned) := rfl
theorem e_L5_326 : lk t_L5 326 = some (.iconst 1, 327, 0, [], .constant "" 0 (1)) := rfl
theorem e_L5_327 : lk t_L5 327 = some (.iadd, 328, 0, [], .returned) := rfl
theorem e_L5_328 : lk t_L5 328 = some (.iaload, 329, 0, [], .returned) := rfl
theorem e_L5_329 : lk t_L5 329 = some (.invokevirtual 41, 332, 0, [1, 10, 0, 0], .code yX10_about cX10_about 2 (some .int)) := rfl
theorem e_L5_332 : lk t_L5 332 = some (.if_icmp .eq 1112, 335, 1444, [], .returned) := rfl
theorem e_L5_335 : lk t_L5 335 = some (.iconst 0, 336, 0, [], .constant "" 0 (0)) := rfl
def t_L6 : Tab := [(337, [], (.aload_n 1, 338, 1, [], .returned)),
  (338, [], (.aload_n 0, 339, 0, [], .returned)),
  (339, [], (.iload 4, 341, 4, [], .returned)),
  (341, [], (.iconst 1, 342, 0, [], .constant "" 0 (1))),
  (342, [], (.iadd, 343, 0, [], .returned)),
  (343, [], (.iaload, 344, 0, [], .returned)),
  (344, [], (.aload_n 0, 345, 0, [], .returned)),
  (345, [], (.iload 4, 347, 4, [], .returned)),
  (347, [], (.iconst 2, 348, 0, [], .constant "" 0 (2))),
  (348, [], (.iadd, 349, 0, [], .returned)),
  (349, [], (.iaload, 350, 0, [], .returned)),
  (350, [666, 669, 667, 668, 92], (.invokevirtual 42, 353, 0, [2, 9, 0, 0], .code yX9_order cX9_order 4 (some .int))),
  (353, [], (.aload_n 2, 354, 2, [], .returned)),
  (354, [], (.aload_n 0, 355, 0, [], .returned)),
  (355, [], (.iload 4, 357, 4, [], .returned)),
  (357, [], (.iconst 1, 358, 0, [], .constant "" 0 (1))),
  (358, [], (.iadd, 359, 0, [], .returned)),
  (359, [], (.iaload, 360, 0, [], .returned)),
  (360, [], (.aload_n 0, 361, 0, [], .returned)),
  (361, [], (.iload 4, 363, 4, [], .returned)),
  (363, [], (.iconst 2, 364, 0, [], .constant "" 0 (2))),
  (364, [], (.iadd, 365, 0, [], .returned)),
  (365, [], (.iaload, 366, 0, [], .returned)),
  (366, [1356, 1359, 1357, 1358, 102], (.invokevirtual 45, 369, 0, [2, 10, 0, 0], .code yX10_order cX10_order 3 (some .int))),
  (369, [], (.if_icmp .eq 1075, 372, 1444, [], .returned)),
  (372, [], (.iconst 0, 373, 0, [], .constant "" 0 (0)))]
theorem ck_L6 : okT q_L_law t_L6 = true := by decide +kernel
theorem e_L6_337 : lk t_L6 337 = some (.aload_n 1, 338, 1, [], .returned) := rfl
theorem e_L6_338 : lk t_L6 338 = some (.aload_n 0, 339, 0, [], .returned) := rfl
theorem e_L6_339 : lk t_L6 339 = some (.iload 4, 341, 4, [], .returned) := rfl
theorem e_L6_341 : lk t_L6 341 = some (.iconst 1, 342, 0, [], .constant "" 0 (1)) := rfl
theorem e_L6_342 : lk t_L6 342 = some (.iadd, 343, 0, [], .returned) := rfl
theorem e_L6_343 : lk t_L6 343 = some (.iaload, 344, 0, [], .returned) := rfl
theorem e_L6_344 : lk t_L6 344 = some (.aload_n 0, 345, 0, [], .returned) := rfl
theorem e_L6_345 : lk t_L6 345 = some (.iload 4, 347, 4, [], .returned) := rfl
theorem e_L6_347 : lk t_L6 347 = some (.iconst 2, 348, 0, [], .constant "" 0 (2)) := rfl
theorem e_L6_348 : lk t_L6 348 = some (.iadd, 349, 0, [], .returned) := rfl
theorem e_L6_349 : lk t_L6 349 = some (.iaload, 350, 0, [], .returned) := rfl
theorem e_L6_350 : lk t_L6 350 = some (.invokevirtual 42, 353, 0, [2, 9, 0, 0], .code yX9_order cX9_order 4 (some .int)) := rfl
theorem e_L6_353 : lk t_L6 353 = some (.aload_n 2, 354, 2, [], .returned) := rfl
theorem e_L6_354 : lk t_L6 354 = some (.aload_n 0, 355, 0, [], .returned) := rfl
theorem e_L6_355 : lk t_L6 355 = some (.iload 4, 357, 4, [], .returned) := rfl
theorem e_L6_357 : lk t_L6 357 = some (.iconst 1, 358, 0, [], .constant "" 0 (1)) := rfl
theorem e_L6_358 : lk t_L6 358 = some (.iadd, 359, 0, [], .returned) := rfl
theorem e_L6_359 : lk t_L6 359 = some (.iaload, 360, 0, [], .returned) := rfl
theorem e_L6_360 : lk t_L6 360 = some (.aload_n 0, 361, 0, [], .returned) := rfl
theorem e_L6_361 : lk t_L6 361 = some (.iload 4, 363, 4, [], .returned) := rfl
theorem e_L6_363 : lk t_L6 363 = some (.iconst 2, 364, 0, [], .constant "" 0 (2)) := rfl
theorem e_L6_364 : lk t_L6 364 = some (.iadd, 365, 0, [], .returned) := rfl
theorem e_L6_365 : lk t_L6 365 = some (.iaload, 366, 0, [], .returned) := rfl
theorem e_L6_366 : lk t_L6 366 = some (.invokevirtual 45, 369, 0, [2, 10, 0, 0], .code yX10_order cX10_order 3 (some .int)) := rfl
theorem e_L6_369 : lk t_L6 369 = some (.if_icmp .eq 1075, 372, 1444, [], .returned) := rfl
theorem e_L6_372 : lk t_L6 372 = some (.iconst 0, 373, 0, [], .constant "" 0 (0)) := rfl
def t_L7 : Tab := [(374, [], (.aload_n 1, 375, 1, [], .returned)),
  (375, [], (.aload_n 0, 376, 0, [], .returned)),
  (376, [], (.iload 4, 378, 4, [], .returned)),
  (378, [], (.iconst 1, 379, 0, [], .constant "" 0 (1))),
  (379, [], (.iadd, 380, 0, [], .returned)),
  (380, [], (.iaload, 381, 0, [], .returned)),
  (381, [], (.aload_n 0, 382, 0, [], .returned)),
  (382, [], (.iload 4, 384, 4, [], .returned)),
  (384, [], (.iconst 2, 385, 0, [], .constant "" 0 (2))),
  (385, [], (.iadd, 386, 0, [], .returned)),
  (386, [], (.iaload, 387, 0, [], .returned)),
  (387, [680, 683, 681, 682, 92], (.invokevirtual 46, 390, 0, [2, 9, 0, 0], .code yX9_payer cX9_payer 4 (some .int))),
  (390, [], (.aload_n 2, 391, 2, [], .returned)),
  (391, [], (.aload_n 0, 392, 0, [], .returned)),
  (392, [], (.iload 4, 394, 4, [], .returned)),
  (394, [], (.iconst 1, 395, 0, [], .constant "" 0 (1))),
  (395, [], (.iadd, 396, 0, [], .returned)),
  (396, [], (.iaload, 397, 0, [], .returned)),
  (397, [], (.aload_n 0, 398, 0, [], .returned)),
  (398, [], (.iload 4, 400, 4, [], .returned)),
  (400, [], (.iconst 2, 401, 0, [], .constant "" 0 (2))),
  (401, [], (.iadd, 402, 0, [], .returned)),
  (402, [], (.iaload, 403, 0, [], .returned)),
  (403, [1368, 1371, 1369, 1370, 102], (.invokevirtual 49, 406, 0, [2, 10, 0, 0], .code yX10_payer cX10_payer 3 (some .int))),
  (406, [], (.if_icmp .eq 1038, 409, 1444, [], .returned)),
  (409, [], (.iconst 0, 410, 0, [], .constant "" 0 (0)))]
theorem ck_L7 : okT q_L_law t_L7 = true := by decide +kernel
theorem e_L7_374 : lk t_L7 374 = some (.aload_n 1, 375, 1, [], .returned) := rfl
theorem e_L7_375 : lk t_L7 375 = some (.aload_n 0, 376, 0, [], .returned) := rfl
theorem e_L7_376 : lk t_L7 376 = some (.iload 4, 378, 4, [], .returned) := rfl
theorem e_L7_378 : lk t_L7 378 = some (.iconst 1, 379, 0, [], .constant "" 0 (1)) := rfl
theorem e_L7_379 : lk t_L7 379 = some (.iadd, 380, 0, [], .returned) := rfl
theorem e_L7_380 : lk t_L7 380 = some (.iaload, 381, 0, [], .returned) := rfl
theorem e_L7_381 : lk t_L7 381 = some (.aload_n 0, 382, 0, [], .returned) := rfl
theorem e_L7_382 : lk t_L7 382 = some (.iload 4, 384, 4, [], .returned) := rfl
theorem e_L7_384 : lk t_L7 384 = some (.iconst 2, 385, 0, [], .constant "" 0 (2)) := rfl
theorem e_L7_385 : lk t_L7 385 = some (.iadd, 386, 0, [], .returned) := rfl
theorem e_L7_386 : lk t_L7 386 = some (.iaload, 387, 0, [], .returned) := rfl
theorem e_L7_387 : lk t_L7 387 = some (.invokevirtual 46, 390, 0, [2, 9, 0, 0], .code yX9_payer cX9_payer 4 (some .int)) := rfl
theorem e_L7_390 : lk t_L7 390 = some (.aload_n 2, 391, 2, [], .returned) := rfl
theorem e_L7_391 : lk t_L7 391 = some (.aload_n 0, 392, 0, [], .returned) := rfl
theorem e_L7_392 : lk t_L7 392 = some (.iload 4, 394, 4, [], .returned) := rfl
theorem e_L7_394 : lk t_L7 394 = some (.iconst 1, 395, 0, [], .constant "" 0 (1)) := rfl
theorem e_L7_395 : lk t_L7 395 = some (.iadd, 396, 0, [], .returned) := rfl
theorem e_L7_396 : lk t_L7 396 = some (.iaload, 397, 0, [], .returned) := rfl
theorem e_L7_397 : lk t_L7 397 = some (.aload_n 0, 398, 0, [], .returned) := rfl
theorem e_L7_398 : lk t_L7 398 = some (.iload 4, 400, 4, [], .returned) := rfl
theorem e_L7_400 : lk t_L7 400 = some (.iconst 2, 401, 0, [], .constant "" 0 (2)) := rfl
theorem e_L7_401 : lk t_L7 401 = some (.iadd, 402, 0, [], .returned) := rfl
theorem e_L7_402 : lk t_L7 402 = some (.iaload, 403, 0, [], .returned) := rfl
theorem e_L7_403 : lk t_L7 403 = some (.invokevirtual 49, 406, 0, [2, 10, 0, 0], .code yX10_payer cX10_payer 3 (some .int)) := rfl
theorem e_L7_406 : lk t_L7 406 = some (.if_icmp .eq 1038, 409, 1444, [], .returned) := rfl
theorem e_L7_409 : lk t_L7 409 = some (.iconst 0, 410, 0, [], .constant "" 0 (0)) := rfl
def t_L8 : Tab := [(411, [], (.aload_n 1, 412, 1, [], .returned)),
  (412, [], (.aload_n 0, 413, 0, [], .returned)),
  (413, [], (.iload 4, 415, 4, [], .returned)),
  (415, [], (.iconst 1, 416, 0, [], .constant "" 0 (1))),
  (416, [], (.iadd, 417, 0, [], .returned)),
  (417, [], (.iaload, 418, 0, [], .returned)),
  (418, [], (.aload_n 0, 419, 0, [], .returned)),
  (419, [], (.iload 4, 421, 4, [], .returned)),
  (421, [], (.iconst 2, 422, 0, [], .constant "" 0 (2))),
  (422, [], (.iadd, 423, 0, [], .returned)),
  (423, [], (.iaload, 424, 0, [], .returned)),
  (424, [], (.aload_n 0, 425, 0, [], .returned)),
  (425, [], (.iload 4, 427, 4, [], .returned)),
  (427, [], (.iconst 3, 428, 0, [], .constant "" 0 (3))),
  (428, [], (.iadd, 429, 0, [], .returned)),
  (429, [], (.iaload, 430, 0, [], .returned)),
  (430, [697, 700, 698, 699, 92], (.invokevirtual 50, 433, 0, [3, 9, 0, 0], .code yX9_table cX9_table 4 (some .int))),
  (433, [], (.aload_n 2, 434, 2, [], .returned)),
  (434, [], (.aload_n 0, 435, 0, [], .returned)),
  (435, [], (.iload 4, 437, 4, [], .returned)),
  (437, [], (.iconst 1, 438, 0, [], .constant "" 0 (1))),
  (438, [], (.iadd, 439, 0, [], .returned)),
  (439, [], (.iaload, 440, 0, [], .returned)),
  (440, [], (.aload_n 0, 441, 0, [], .returned)),
  (441, [], (.iload 4, 443, 4, [], .returned)),
  (443, [], (.iconst 2, 444, 0, [], .constant "" 0 (2))),
  (444, [], (.iadd, 445, 0, [], .returned)),
  (445, [], (.iaload, 446, 0, [], .returned)),
  (446, [], (.aload_n 0, 447, 0, [], .returned)),
  (447, [], (.iload 4, 449, 4, [], .returned)),
  (449, [], (.iconst 3, 450, 0, [], .constant "" 0 (3))),
  (450, [], (.iadd, 451, 0, [], .returned)),
  (451, [], (.iaload, 452, 0, [], .returned)),
  (452, [1376, 1379, 1377, 1378, 102], (.invokevirtual 54, 455, 0, [3, 10, 0, 0], .code yX10_table cX10_table 4 (some .int))),
  (455, [], (.if_icmp .eq 989, 458, 1444, [], .returned)),
  (458, [], (.iconst 0, 459, 0, [], .constant "" 0 (0)))]
theorem ck_L8 : okT q_L_law t_L8 = true := by decide +kernel
theorem e_L8_411 : lk t_L8 411 = some (.aload_n 1, 412, 1, [], .returned) := rfl
theorem e_L8_412 : lk t_L8 412 = some (.aload_n 0, 413, 0, [], .returned) := rfl
theorem e_L8_413 : lk t_L8 413 = some (.iload 4, 415, 4, [], .returned) := rfl
theorem e_L8_415 : lk t_L8 415 = some (.iconst 1, 416, 0, [], .constant "" 0 (1)) := rfl
theorem e_L8_416 : lk t_L8 416 = some (.iadd, 417, 0, [], .returned) := rfl
theorem e_L8_417 : lk t_L8 417 = some (.iaload, 418, 0, [], .returned) := rfl
theorem e_L8_418 : lk t_L8 418 = some (.aload_n 0, 419, 0, [], .returned) := rfl
theorem e_L8_419 : lk t_L8 419 = some (.iload 4, 421, 4, [], .returned) := rfl
theorem e_L8_421 : lk t_L8 421 = some (.iconst 2, 422, 0, [], .constant "" 0 (2)) := rfl
theorem e_L8_422 : lk t_L8 422 = some (.iadd, 423, 0, [], .returned) := rfl
theorem e_L8_423 : lk t_L8 423 = some (.iaload, 424, 0, [], .returned) := rfl
theorem e_L8_424 : lk t_L8 424 = some (.aload_n 0, 425, 0, [], .returned) := rfl
theorem e_L8_425 : lk t_L8 425 = some (.iload 4, 427, 4, [], .returned) := rfl
theorem e_L8_427 : lk t_L8 427 = some (.iconst 3, 428, 0, [], .constant "" 0 (3)) := rfl
theorem e_L8_428 : lk t_L8 428 = some (.iadd, 429, 0, [], .returned) := rfl
theorem e_L8_429 : lk t_L8 429 = some (.iaload, 430, 0, [], .returned) := rfl
theorem e_L8_430 : lk t_L8 430 = some (.invokevirtual 50, 433, 0, [3, 9, 0, 0], .code yX9_table cX9_table 4 (some .int)) := rfl
theorem e_L8_433 : lk t_L8 433 = some (.aload_n 2, 434, 2, [], .returned) := rfl
theorem e_L8_434 : lk t_L8 434 = some (.aload_n 0, 435, 0, [], .returned) := rfl
theorem e_L8_435 : lk t_L8 435 = some (.iload 4, 437, 4, [], .returned) := rfl
theorem e_L8_437 : lk t_L8 437 = some (.iconst 1, 438, 0, [], .constant "" 0 (1)) := rfl
theorem e_L8_438 : lk t_L8 438 = some (.iadd, 439, 0, [], .returned) := rfl
theorem e_L8_439 : lk t_L8 439 = some (.iaload, 440, 0, [], .returned) := rfl
theorem e_L8_440 : lk t_L8 440 = some (.aload_n 0, 441, 0, [], .returned) := rfl
theorem e_L8_441 : lk t_L8 441 = some (.iload 4, 443, 4, [], .returned) := rfl
theorem e_L8_443 : lk t_L8 443 = some (.iconst 2, 444, 0, [], .constant "" 0 (2)) := rfl
theorem e_L8_444 : lk t_L8 444 = some (.iadd, 445, 0, [], .returned) := rfl
theorem e_L8_445 : lk t_L8 445 = some (.iaload, 446, 0, [], .returned) := rfl
theorem e_L8_446 : lk t_L8 446 = some (.aload_n 0, 447, 0, [], .returned) := rfl
theorem e_L8_447 : lk t_L8 447 = some (.iload 4, 449, 4, [], .returned) := rfl
theorem e_L8_449 : lk t_L8 449 = some (.iconst 3, 450, 0, [], .constant "" 0 (3)) := rfl
theorem e_L8_450 : lk t_L8 450 = some (.iadd, 451, 0, [], .returned) := rfl
theorem e_L8_451 : lk t_L8 451 = some (.iaload, 452, 0, [], .returned) := rfl
theorem e_L8_452 : lk t_L8 452 = some (.invokevirtual 54, 455, 0, [3, 10, 0, 0], .code yX10_table cX10_table 4 (some .int)) := rfl
theorem e_L8_455 : lk t_L8 455 = some (.if_icmp .eq 989, 458, 1444, [], .returned) := rfl
theorem e_L8_458 : lk t_L8 458 = some (.iconst 0, 459, 0, [], .constant "" 0 (0)) := rfl
def t_L9 : Tab := [(460, [], (.aload_n 1, 461, 1, [], .returned)),
  (461, [], (.aload_n 0, 462, 0, [], .returned)),
  (462, [], (.iload 4, 464, 4, [], .returned)),
  (464, [], (.iconst 1, 465, 0, [], .constant "" 0 (1))),
  (465, [], (.iadd, 466, 0, [], .returned)),
  (466, [], (.iaload, 467, 0, [], .returned)),
  (467, [], (.aload_n 0, 468, 0, [], .returned)),
  (468, [], (.iload 4, 470, 4, [], .returned)),
  (470, [], (.iconst 2, 471, 0, [], .constant "" 0 (2))),
  (471, [], (.iadd, 472, 0, [], .returned)),
  (472, [], (.iaload, 473, 0, [], .returned)),
  (473, [], (.aload_n 0, 474, 0, [], .returned)),
  (474, [], (.iload 4, 476, 4, [], .returned)),
  (476, [], (.iconst 3, 477, 0, [], .constant "" 0 (3))),
  (477, [], (.iadd, 478, 0, [], .returned)),
  (478, [], (.iaload, 479, 0, [], .returned)),
  (479, [721, 724, 722, 723, 92], (.invokevirtual 55, 482, 0, [3, 9, 0, 0], .code yX9_row cX9_row 5 (some .int))),
  (482, [], (.aload_n 2, 483, 2, [], .returned)),
  (483, [], (.aload_n 0, 484, 0, [], .returned)),
  (484, [], (.iload 4, 486, 4, [], .returned)),
  (486, [], (.iconst 1, 487, 0, [], .constant "" 0 (1))),
  (487, [], (.iadd, 488, 0, [], .returned)),
  (488, [], (.iaload, 489, 0, [], .returned)),
  (489, [], (.aload_n 0, 490, 0, [], .returned)),
  (490, [], (.iload 4, 492, 4, [], .returned)),
  (492, [], (.iconst 2, 493, 0, [], .constant "" 0 (2))),
  (493, [], (.iadd, 494, 0, [], .returned)),
  (494, [], (.iaload, 495, 0, [], .returned)),
  (495, [], (.aload_n 0, 496, 0, [], .returned)),
  (496, [], (.iload 4, 498, 4, [], .returned)),
  (498, [], (.iconst 3, 499, 0, [], .constant "" 0 (3))),
  (499, [], (.iadd, 500, 0, [], .returned)),
  (500, [], (.iaload, 501, 0, [], .returned)),
  (501, [1394, 1397, 1395, 1396, 102], (.invokevirtual 58, 504, 0, [3, 10, 0, 0], .code yX10_row cX10_row 4 (some .int))),
  (504, [], (.if_icmp .eq 940, 507, 1444, [], .returned)),
  (507, [], (.iconst 0, 508, 0, [], .constant "" 0 (0)))]
theorem ck_L9 : okT q_L_law t_L9 = true := by decide +kernel
theorem e_L9_460 : lk t_L9 460 = some (.aload_n 1, 461, 1, [], .returned) := rfl
theorem e_L9_461 : lk t_L9 461 = some (.aload_n 0, 462, 0, [], .returned) := rfl
theorem e_L9_462 : lk t_L9 462 = some (.iload 4, 464, 4, [], .returned) := rfl
theorem e_L9_464 : lk t_L9 464 = some (.iconst 1, 465, 0, [], .constant "" 0 (1)) := rfl
theorem e_L9_465 : lk t_L9 465 = some (.iadd, 466, 0, [], .returned) := rfl
theorem e_L9_466 : lk t_L9 466 = some (.iaload, 467, 0, [], .returned) := rfl
theorem e_L9_467 : lk t_L9 467 = some (.aload_n 0, 468, 0, [], .returned) := rfl
theorem e_L9_468 : lk t_L9 468 = some (.iload 4, 470, 4, [], .returned) := rfl
theorem e_L9_470 : lk t_L9 470 = some (.iconst 2, 471, 0, [], .constant "" 0 (2)) := rfl
theorem e_L9_471 : lk t_L9 471 = some (.iadd, 472, 0, [], .returned) := rfl
theorem e_L9_472 : lk t_L9 472 = some (.iaload, 473, 0, [], .returned) := rfl
theorem e_L9_473 : lk t_L9 473 = some (.aload_n 0, 474, 0, [], .returned) := rfl
theorem e_L9_474 : lk t_L9 474 = some (.iload 4, 476, 4, [], .returned) := rfl
theorem e_L9_476 : lk t_L9 476 = some (.iconst 3, 477, 0, [], .constant "" 0 (3)) := rfl
theorem e_L9_477 : lk t_L9 477 = some (.iadd, 478, 0, [], .returned) := rfl
theorem e_L9_478 : lk t_L9 478 = some (.iaload, 479, 0, [], .returned) := rfl
theorem e_L9_479 : lk t_L9 479 = some (.invokevirtual 55, 482, 0, [3, 9, 0, 0], .code yX9_row cX9_row 5 (some .int)) := rfl
theorem e_L9_482 : lk t_L9 482 = some (.aload_n 2, 483, 2, [], .returned) := rfl
theorem e_L9_483 : lk t_L9 483 = some (.aload_n 0, 484, 0, [], .returned) := rfl
theorem e_L9_484 : lk t_L9 484 = some (.iload 4, 486, 4, [], .returned) := rfl
theorem e_L9_486 : lk t_L9 486 = some (.iconst 1, 487, 0, [], .constant "" 0 (1)) := rfl
theorem e_L9_487 : lk t_L9 487 = some (.iadd, 488, 0, [], .returned) := rfl
theorem e_L9_488 : lk t_L9 488 = some (.iaload, 489, 0, [], .returned) := rfl
theorem e_L9_489 : lk t_L9 489 = some (.aload_n 0, 490, 0, [], .returned) := rfl
theorem e_L9_490 : lk t_L9 490 = some (.iload 4, 492, 4, [], .returned) := rfl
theorem e_L9_492 : lk t_L9 492 = some (.iconst 2, 493, 0, [], .constant "" 0 (2)) := rfl
theorem e_L9_493 : lk t_L9 493 = some (.iadd, 494, 0, [], .returned) := rfl
theorem e_L9_494 : lk t_L9 494 = some (.iaload, 495, 0, [], .returned) := rfl
theorem e_L9_495 : lk t_L9 495 = some (.aload_n 0, 496, 0, [], .returned) := rfl
theorem e_L9_496 : lk t_L9 496 = some (.iload 4, 498, 4, [], .returned) := rfl
theorem e_L9_498 : lk t_L9 498 = some (.iconst 3, 499, 0, [], .constant "" 0 (3)) := rfl
theorem e_L9_499 : lk t_L9 499 = some (.iadd, 500, 0, [], .returned) := rfl
theorem e_L9_500 : lk t_L9 500 = some (.iaload, 501, 0, [], .returned) := rfl
theorem e_L9_501 : lk t_L9 501 = some (.invokevirtual 58, 504, 0, [3, 10, 0, 0], .code yX10_row cX10_row 4 (some .int)) := rfl
theorem e_L9_504 : lk t_L9 504 = some (.if_icmp .eq 940, 507, 1444, [], .returned) := rfl
theorem e_L9_507 : lk t_L9 507 = some (.iconst 0, 508, 0, [], .constant "" 0 (0)) := rfl
def t_L10 : Tab := [(509, [], (.aload_n 1, 510, 1, [], .returned)),
  (510, [], (.aload_n 0, 511, 0, [], .returned)),
  (511, [], (.iload 4, 513, 4, [], .returned)),
  (513, [], (.iconst 1, 514, 0, [], .constant "" 0 (1))),
  (514, [], (.iadd, 515, 0, [], .returned)),
  (515, [], (.iaload, 516, 0, [], .returned)),
  (516, [], (.aload_n 0, 517, 0, [], .returned)),
  (517, [], (.iload 4, 519, 4, [], .returned)),
  (519, [], (.iconst 2, 520, 0, [], .constant "" 0 (2))),
  (520, [], (.iadd, 521, 0, [], .returned)),
  (521, [], (.iaload, 522, 0, [], .returned)),
  (522, [729, 732, 730, 731, 92], (.invokevirtual 59, 525, 0, [2, 9, 0, 0], .code yX9_floor cX9_floor 3 (some .int))),
  (525, [], (.aload_n 2, 526, 2, [], .returned)),
  (526, [], (.aload_n 0, 527, 0, [], .returned)),
  (527, [], (.iload 4, 529, 4, [], .returned)),
  (529, [], (.iconst 1, 530, 0, [], .constant "" 0 (1))),
  (530, [], (.iadd, 531, 0, [], .returned)),
  (531, [], (.iaload, 532, 0, [], .returned)),
  (532, [], (.aload_n 0, 533, 0, [], .returned)),
  (533, [], (.iload 4, 535, 4, [], .returned)),
  (535, [], (.iconst 2, 536, 0, [], .constant "" 0 (2))),
  (536, [], (.iadd, 537, 0, [], .returned)),
  (537, [], (.iaload, 538, 0, [], .returned)),
  (538, [1398, 1401, 1399, 1400, 102], (.invokevirtual 62, 541, 0, [2, 10, 0, 0], .code yX10_floor cX10_floor 3 (some .int))),
  (541, [], (.if_icmp .eq 903, 544, 1444, [], .returned)),
  (544, [], (.iconst 0, 545, 0, [], .constant "" 0 (0)))]
theorem ck_L10 : okT q_L_law t_L10 = true := by decide +kernel
theorem e_L10_509 : lk t_L10 509 = some (.aload_n 1, 510, 1, [], .returned) := rfl
theorem e_L10_510 : lk t_L10 510 = some (.aload_n 0, 511, 0, [], .returned) := rfl
theorem e_L10_511 : lk t_L10 511 = some (.iload 4, 513, 4, [], .returned) := rfl
theorem e_L10_513 : lk t_L10 513 = some (.iconst 1, 514, 0, [], .constant "" 0 (1)) := rfl
theorem e_L10_514 : lk t_L10 514 = some (.iadd, 515, 0, [], .returned) := rfl
theorem e_L10_515 : lk t_L10 515 = some (.iaload, 516, 0, [], .returned) := rfl
theorem e_L10_516 : lk t_L10 516 = some (.aload_n 0, 517, 0, [], .returned) := rfl
theorem e_L10_517 : lk t_L10 517 = some (.iload 4, 519, 4, [], .returned) := rfl
theorem e_L10_519 : lk t_L10 519 = some (.iconst 2, 520, 0, [], .constant "" 0 (2)) := rfl
theorem e_L10_520 : lk t_L10 520 = some (.iadd, 521, 0, [], .returned) := rfl
theorem e_L10_521 : lk t_L10 521 = some (.iaload, 522, 0, [], .returned) := rfl
theorem e_L10_522 : lk t_L10 522 = some (.invokevirtual 59, 525, 0, [2, 9, 0, 0], .code yX9_floor cX9_floor 3 (some .int)) := rfl
theorem e_L10_525 : lk t_L10 525 = some (.aload_n 2, 526, 2, [], .returned) := rfl
theorem e_L10_526 : lk t_L10 526 = some (.aload_n 0, 527, 0, [], .returned) := rfl
theorem e_L10_527 : lk t_L10 527 = some (.iload 4, 529, 4, [], .returned) := rfl
theorem e_L10_529 : lk t_L10 529 = some (.iconst 1, 530, 0, [], .constant "" 0 (1)) := rfl
theorem e_L10_530 : lk t_L10 530 = some (.iadd, 531, 0, [], .returned) := rfl
theorem e_L10_531 : lk t_L10 531 = some (.iaload, 532, 0, [], .returned) := rfl
theorem e_L10_532 : lk t_L10 532 = some (.aload_n 0, 533, 0, [], .returned) := rfl
theorem e_L10_533 : lk t_L10 533 = some (.iload 4, 535, 4, [], .returned) := rfl
theorem e_L10_535 : lk t_L10 535 = some (.iconst 2, 536, 0, [], .constant "" 0 (2)) := rfl
theorem e_L10_536 : lk t_L10 536 = some (.iadd, 537, 0, [], .returned) := rfl
theorem e_L10_537 : lk t_L10 537 = some (.iaload, 538, 0, [], .returned) := rfl
theorem e_L10_538 : lk t_L10 538 = some (.invokevirtual 62, 541, 0, [2, 10, 0, 0], .code yX10_floor cX10_floor 3 (some .int)) := rfl
theorem e_L10_541 : lk t_L10 541 = some (.if_icmp .eq 903, 544, 1444, [], .returned) := rfl
theorem e_L10_544 : lk t_L10 544 = some (.iconst 0, 545, 0, [], .constant "" 0 (0)) := rfl
def t_L11 : Tab := [(546, [], (.aload_n 1, 547, 1, [], .returned)),
  (547, [], (.aload_n 0, 548, 0, [], .returned)),
  (548, [], (.iload 4, 550, 4, [], .returned)),
  (550, [], (.iconst 1, 551, 0, [], .constant "" 0 (1))),
  (551, [], (.iadd, 552, 0, [], .returned)),
  (552, [], (.iaload, 553, 0, [], .returned)),
  (553, [], (.aload_n 0, 554, 0, [], .returned)),
  (554, [], (.iload 4, 556, 4, [], .returned)),
  (556, [], (.iconst 2, 557, 0, [], .constant "" 0 (2))),
  (557, [], (.iadd, 558, 0, [], .returned)),
  (558, [], (.iaload, 559, 0, [], .returned)),
  (559, [], (.aload_n 0, 560, 0, [], .returned)),
  (560, [], (.iload 4, 562, 4, [], .returned)),
  (562, [], (.iconst 3, 563, 0, [], .constant "" 0 (3))),
  (563, [], (.iadd, 564, 0, [], .returned)),
  (564, [], (.iaload, 565, 0, [], .returned)),
  (565, [740, 743, 741, 742, 92], (.invokevirtual 63, 568, 0, [3, 9, 0, 0], .code yX9_ownFloor cX9_ownFloor 4 (some .int))),
  (568, [], (.aload_n 2, 569, 2, [], .returned)),
  (569, [], (.aload_n 0, 570, 0, [], .returned)),
  (570, [], (.iload 4, 572, 4, [], .returned)),
  (572, [], (.iconst 1, 573, 0, [], .constant "" 0 (1))),
  (573, [], (.iadd, 574, 0, [], .returned)),
  (574, [], (.iaload, 575, 0, [], .returned)),
  (575, [], (.aload_n 0, 576, 0, [], .returned)),
  (576, [], (.iload 4, 578, 4, [], .returned)),
  (578, [], (.iconst 2, 579, 0, [], .constant "" 0 (2))),
  (579, [], (.iadd, 580, 0, [], .returned)),
  (580, [], (.iaload, 581, 0, [], .returned)),
  (581, [], (.aload_n 0, 582, 0, [], .returned)),
  (582, [], (.iload 4, 584, 4, [], .returned)),
  (584, [], (.iconst 3, 585, 0, [], .constant "" 0 (3))),
  (585, [], (.iadd, 586, 0, [], .returned)),
  (586, [], (.iaload, 587, 0, [], .returned)),
  (587, [1409, 1412, 1410, 1411, 102], (.invokevirtual 66, 590, 0, [3, 10, 0, 0], .code yX10_ownFloor cX10_ownFloor 4 (some .int))),
  (590, [], (.if_icmp .eq 854, 593, 1444, [], .returned)),
  (593, [], (.iconst 0, 594, 0, [], .constant "" 0 (0)))]
theorem ck_L11 : okT q_L_law t_L11 = true := by decide +kernel
theorem e_L11_546 : lk t_L11 546 = some (.aload_n 1, 547, 1, [], .returned) := rfl
theorem e_L11_547 : lk t_L11 547 = some (.aload_n 0, 548, 0, [], .returned) := rfl
theorem e_L11_548 : lk t_L11 548 = some (.iload 4, 550, 4, [], .returned) := rfl
theorem e_L11_550 : lk t_L11 550 = some (.iconst 1, 551, 0, [], .constant "" 0 (1)) := rfl
theorem e_L11_551 : lk t_L11 551 = some (.iadd, 552, 0, [], .returned) := rfl
theorem e_L11_552 : lk t_L11 552 = some (.iaload, 553, 0, [], .returned) := rfl
theorem e_L11_553 : lk t_L11 553 = some (.aload_n 0, 554, 0, [], .returned) := rfl
theorem e_L11_554 : lk t_L11 554 = some (.iload 4, 556, 4, [], .returned) := rfl
theorem e_L11_556 : lk t_L11 556 = some (.iconst 2, 557, 0, [], .constant "" 0 (2)) := rfl
theorem e_L11_557 : lk t_L11 557 = some (.iadd, 558, 0, [], .returned) := rfl
theorem e_L11_558 : lk t_L11 558 = some (.iaload, 559, 0, [], .returned) := rfl
theorem e_L11_559 : lk t_L11 559 = some (.aload_n 0, 560, 0, [], .returned) := rfl
theorem e_L11_560 : lk t_L11 560 = some (.iload 4, 562, 4, [], .returned) := rfl
theorem e_L11_562 : lk t_L11 562 = some (.iconst 3, 563, 0, [], .constant "" 0 (3)) := rfl
theorem e_L11_563 : lk t_L11 563 = some (.iadd, 564, 0, [], .returned) := rfl
theorem e_L11_564 : lk t_L11 564 = some (.iaload, 565, 0, [], .returned) := rfl
theorem e_L11_565 : lk t_L11 565 = some (.invokevirtual 63, 568, 0, [3, 9, 0, 0], .code yX9_ownFloor cX9_ownFloor 4 (some .int)) := rfl
theorem e_L11_568 : lk t_L11 568 = some (.aload_n 2, 569, 2, [], .returned) := rfl
theorem e_L11_569 : lk t_L11 569 = some (.aload_n 0, 570, 0, [], .returned) := rfl
theorem e_L11_570 : lk t_L11 570 = some (.iload 4, 572, 4, [], .returned) := rfl
theorem e_L11_572 : lk t_L11 572 = some (.iconst 1, 573, 0, [], .constant "" 0 (1)) := rfl
theorem e_L11_573 : lk t_L11 573 = some (.iadd, 574, 0, [], .returned) := rfl
theorem e_L11_574 : lk t_L11 574 = some (.iaload, 575, 0, [], .returned) := rfl
theorem e_L11_575 : lk t_L11 575 = some (.aload_n 0, 576, 0, [], .returned) := rfl
theorem e_L11_576 : lk t_L11 576 = some (.iload 4, 578, 4, [], .returned) := rfl
theorem e_L11_578 : lk t_L11 578 = some (.iconst 2, 579, 0, [], .constant "" 0 (2)) := rfl
theorem e_L11_579 : lk t_L11 579 = some (.iadd, 580, 0, [], .returned) := rfl
theorem e_L11_580 : lk t_L11 580 = some (.iaload, 581, 0, [], .returned) := rfl
theorem e_L11_581 : lk t_L11 581 = some (.aload_n 0, 582, 0, [], .returned) := rfl
theorem e_L11_582 : lk t_L11 582 = some (.iload 4, 584, 4, [], .returned) := rfl
theorem e_L11_584 : lk t_L11 584 = some (.iconst 3, 585, 0, [], .constant "" 0 (3)) := rfl
theorem e_L11_585 : lk t_L11 585 = some (.iadd, 586, 0, [], .returned) := rfl
theorem e_L11_586 : lk t_L11 586 = some (.iaload, 587, 0, [], .returned) := rfl
theorem e_L11_587 : lk t_L11 587 = some (.invokevirtual 66, 590, 0, [3, 10, 0, 0], .code yX10_ownFloor cX10_ownFloor 4 (some .int)) := rfl
theorem e_L11_590 : lk t_L11 590 = some (.if_icmp .eq 854, 593, 1444, [], .returned) := rfl
theorem e_L11_593 : lk t_L11 593 = some (.iconst 0, 594, 0, [], .constant "" 0 (0)) := rfl
def t_L12 : Tab := [(595, [], (.aload_n 1, 596, 1, [], .returned)),
  (596, [], (.aload_n 0, 597, 0, [], .returned)),
  (597, [], (.iload 4, 599, 4, [], .returned)),
  (599, [], (.iconst 1, 600, 0, [], .constant "" 0 (1))),
  (600, [], (.iadd, 601, 0, [], .returned)),
  (601, [], (.iaload, 602, 0, [], .returned)),
  (602, [], (.aload_n 0, 603, 0, [], .returned)),
  (603, [], (.iload 4, 605, 4, [], .returned)),
  (605, [], (.iconst 2, 606, 0, [], .constant "" 0 (2))),
  (606, [], (.iadd, 607, 0, [], .returned)),
  (607, [], (.iaload, 608, 0, [], .returned)),
  (608, [749, 752, 750, 751, 92], (.invokevirtual 67, 611, 0, [2, 9, 0, 0], .code yX9_past cX9_past 3 (some .int))),
  (611, [], (.aload_n 2, 612, 2, [], .returned)),
  (612, [], (.aload_n 0, 613, 0, [], .returned)),
  (613, [], (.iload 4, 615, 4, [], .returned)),
  (615, [], (.iconst 1, 616, 0, [], .constant "" 0 (1))),
  (616, [], (.iadd, 617, 0, [], .returned)),
  (617, [], (.iaload, 618, 0, [], .returned)),
  (618, [], (.aload_n 0, 619, 0, [], .returned)),
  (619, [], (.iload 4, 621, 4, [], .returned)),
  (621, [], (.iconst 2, 622, 0, [], .constant "" 0 (2))),
  (622, [], (.iadd, 623, 0, [], .returned)),
  (623, [], (.iaload, 624, 0, [], .returned)),
  (624, [1417, 1420, 1418, 1419, 102], (.invokevirtual 70, 627, 0, [2, 10, 0, 0], .code yX10_past cX10_past 3 (some .int))),
  (627, [], (.if_icmp .eq 817, 630, 1444, [], .returned)),
  (630, [], (.iconst 0, 631, 0, [], .constant "" 0 (0)))]
theorem ck_L12 : okT q_L_law t_L12 = true := by decide +kernel
theorem e_L12_595 : lk t_L12 595 = some (.aload_n 1, 596, 1, [], .returned) := rfl
theorem e_L12_596 : lk t_L12 596 = some (.aload_n 0, 597, 0, [], .returned) := rfl
theorem e_L12_597 : lk t_L12 597 = some (.iload 4, 599, 4, [], .returned) := rfl
theorem e_L12_599 : lk t_L12 599 = some (.iconst 1, 600, 0, [], .constant "" 0 (1)) := rfl
theorem e_L12_600 : lk t_L12 600 = some (.iadd, 601, 0, [], .returned) := rfl
theorem e_L12_601 : lk t_L12 601 = some (.iaload, 602, 0, [], .returned) := rfl
theorem e_L12_602 : lk t_L12 602 = some (.aload_n 0, 603, 0, [], .returned) := rfl
theorem e_L12_603 : lk t_L12 603 = some (.iload 4, 605, 4, [], .returned) := rfl
theorem e_L12_605 : lk t_L12 605 = some (.iconst 2, 606, 0, [], .constant "" 0 (2)) := rfl
theorem e_L12_606 : lk t_L12 606 = some (.iadd, 607, 0, [], .returned) := rfl
theorem e_L12_607 : lk t_L12 607 = some (.iaload, 608, 0, [], .returned) := rfl
theorem e_L12_608 : lk t_L12 608 = some (.invokevirtual 67, 611, 0, [2, 9, 0, 0], .code yX9_past cX9_past 3 (some .int)) := rfl
theorem e_L12_611 : lk t_L12 611 = some (.aload_n 2, 612, 2, [], .returned) := rfl
theorem e_L12_612 : lk t_L12 612 = some (.aload_n 0, 613, 0, [], .returned) := rfl
theorem e_L12_613 : lk t_L12 613 = some (.iload 4, 615, 4, [], .returned) := rfl
theorem e_L12_615 : lk t_L12 615 = some (.iconst 1, 616, 0, [], .constant "" 0 (1)) := rfl
theorem e_L12_616 : lk t_L12 616 = some (.iadd, 617, 0, [], .returned) := rfl
theorem e_L12_617 : lk t_L12 617 = some (.iaload, 618, 0, [], .returned) := rfl
theorem e_L12_618 : lk t_L12 618 = some (.aload_n 0, 619, 0, [], .returned) := rfl
theorem e_L12_619 : lk t_L12 619 = some (.iload 4, 621, 4, [], .returned) := rfl
theorem e_L12_621 : lk t_L12 621 = some (.iconst 2, 622, 0, [], .constant "" 0 (2)) := rfl
theorem e_L12_622 : lk t_L12 622 = some (.iadd, 623, 0, [], .returned) := rfl
theorem e_L12_623 : lk t_L12 623 = some (.iaload, 624, 0, [], .returned) := rfl
theorem e_L12_624 : lk t_L12 624 = some (.invokevirtual 70, 627, 0, [2, 10, 0, 0], .code yX10_past cX10_past 3 (some .int)) := rfl
theorem e_L12_627 : lk t_L12 627 = some (.if_icmp .eq 817, 630, 1444, [], .returned) := rfl
theorem e_L12_630 : lk t_L12 630 = some (.iconst 0, 631, 0, [], .constant "" 0 (0)) := rfl
def t_L13 : Tab := [(632, [], (.aload_n 1, 633, 1, [], .returned)),
  (633, [], (.aload_n 0, 634, 0, [], .returned)),
  (634, [], (.iload 4, 636, 4, [], .returned)),
  (636, [], (.iconst 1, 637, 0, [], .constant "" 0 (1))),
  (637, [], (.iadd, 638, 0, [], .returned)),
  (638, [], (.iaload, 639, 0, [], .returned)),
  (639, [], (.aload_n 0, 640, 0, [], .returned)),
  (640, [], (.iload 4, 642, 4, [], .returned)),
  (642, [], (.iconst 2, 643, 0, [], .constant "" 0 (2))),
  (643, [], (.iadd, 644, 0, [], .returned)),
  (644, [], (.iaload, 645, 0, [], .returned)),
  (645, [], (.aload_n 0, 646, 0, [], .returned)),
  (646, [], (.iload 4, 648, 4, [], .returned)),
  (648, [], (.iconst 3, 649, 0, [], .constant "" 0 (3))),
  (649, [], (.iadd, 650, 0, [], .returned)),
  (650, [], (.iaload, 651, 0, [], .returned)),
  (651, [761, 764, 762, 763, 92], (.invokevirtual 71, 654, 0, [3, 9, 0, 0], .code yX9_pastOf cX9_pastOf 4 (some .int))),
  (654, [], (.aload_n 2, 655, 2, [], .returned)),
  (655, [], (.aload_n 0, 656, 0, [], .returned)),
  (656, [], (.iload 4, 658, 4, [], .returned)),
  (658, [], (.iconst 1, 659, 0, [], .constant "" 0 (1))),
  (659, [], (.iadd, 660, 0, [], .returned)),
  (660, [], (.iaload, 661, 0, [], .returned)),
  (661, [], (.aload_n 0, 662, 0, [], .returned)),
  (662, [], (.iload 4, 664, 4, [], .returned)),
  (664, [], (.iconst 2, 665, 0, [], .constant "" 0 (2))),
  (665, [], (.iadd, 666, 0, [], .returned)),
  (666, [], (.iaload, 667, 0, [], .returned)),
  (667, [], (.aload_n 0, 668, 0, [], .returned)),
  (668, [], (.iload 4, 670, 4, [], .returned)),
  (670, [], (.iconst 3, 671, 0, [], .constant "" 0 (3))),
  (671, [], (.iadd, 672, 0, [], .returned)),
  (672, [], (.iaload, 673, 0, [], .returned)),
  (673, [1425, 1428, 1426, 1427, 102], (.invokevirtual 74, 676, 0, [3, 10, 0, 0], .code yX10_pastOf cX10_pastOf 5 (some .int))),
  (676, [], (.if_icmp .eq 768, 679, 1444, [], .returned)),
  (679, [], (.iconst 0, 680, 0, [], .constant "" 0 (0)))]
theorem ck_L13 : okT q_L_law t_L13 = true := by decide +kernel
theorem e_L13_632 : lk t_L13 632 = some (.aload_n 1, 633, 1, [], .returned) := rfl
theorem e_L13_633 : lk t_L13 633 = some (.aload_n 0, 634, 0, [], .returned) := rfl
theorem e_L13_634 : lk t_L13 634 = some (.iload 4, 636, 4, [], .returned) := rfl
theorem e_L13_636 : lk t_L13 636 = some (.iconst 1, 637, 0, [], .constant "" 0 (1)) := rfl
theorem e_L13_637 : lk t_L13 637 = some (.iadd, 638, 0, [], .returned) := rfl
theorem e_L13_638 : lk t_L13 638 = some (.iaload, 639, 0, [], .returned) := rfl
theorem e_L13_639 : lk t_L13 639 = some (.aload_n 0, 640, 0, [], .returned) := rfl
theorem e_L13_640 : lk t_L13 640 = some (.iload 4, 642, 4, [], .returned) := rfl
theorem e_L13_642 : lk t_L13 642 = some (.iconst 2, 643, 0, [], .constant "" 0 (2)) := rfl
theorem e_L13_643 : lk t_L13 643 = some (.iadd, 644, 0, [], .returned) := rfl
theorem e_L13_644 : lk t_L13 644 = some (.iaload, 645, 0, [], .returned) := rfl
theorem e_L13_645 : lk t_L13 645 = some (.aload_n 0, 646, 0, [], .returned) := rfl
theorem e_L13_646 : lk t_L13 646 = some (.iload 4, 648, 4, [], .returned) := rfl
theorem e_L13_648 : lk t_L13 648 = some (.iconst 3, 649, 0, [], .constant "" 0 (3)) := rfl
theorem e_L13_649 : lk t_L13 649 = some (.iadd, 650, 0, [], .returned) := rfl
theorem e_L13_650 : lk t_L13 650 = some (.iaload, 651, 0, [], .returned) := rfl
theorem e_L13_651 : lk t_L13 651 = some (.invokevirtual 71, 654, 0, [3, 9, 0, 0], .code yX9_pastOf cX9_pastOf 4 (some .int)) := rfl
theorem e_L13_654 : lk t_L13 654 = some (.aload_n 2, 655, 2, [], .returned) := rfl
theorem e_L13_655 : lk t_L13 655 = some (.aload_n 0, 656, 0, [], .returned) := rfl
theorem e_L13_656 : lk t_L13 656 = some (.iload 4, 658, 4, [], .returned) := rfl
theorem e_L13_658 : lk t_L13 658 = some (.iconst 1, 659, 0, [], .constant "" 0 (1)) := rfl
theorem e_L13_659 : lk t_L13 659 = some (.iadd, 660, 0, [], .returned) := rfl
theorem e_L13_660 : lk t_L13 660 = some (.iaload, 661, 0, [], .returned) := rfl
theorem e_L13_661 : lk t_L13 661 = some (.aload_n 0, 662, 0, [], .returned) := rfl
theorem e_L13_662 : lk t_L13 662 = some (.iload 4, 664, 4, [], .returned) := rfl
theorem e_L13_664 : lk t_L13 664 = some (.iconst 2, 665, 0, [], .constant "" 0 (2)) := rfl
theorem e_L13_665 : lk t_L13 665 = some (.iadd, 666, 0, [], .returned) := rfl
theorem e_L13_666 : lk t_L13 666 = some (.iaload, 667, 0, [], .returned) := rfl
theorem e_L13_667 : lk t_L13 667 = some (.aload_n 0, 668, 0, [], .returned) := rfl
theorem e_L13_668 : lk t_L13 668 = some (.iload 4, 670, 4, [], .returned) := rfl
theorem e_L13_670 : lk t_L13 670 = some (.iconst 3, 671, 0, [], .constant "" 0 (3)) := rfl
theorem e_L13_671 : lk t_L13 671 = some (.iadd, 672, 0, [], .returned) := rfl
theorem e_L13_672 : lk t_L13 672 = some (.iaload, 673, 0, [], .returned) := rfl
theorem e_L13_673 : lk t_L13 673 = some (.invokevirtual 74, 676, 0, [3, 10, 0, 0], .code yX10_pastOf cX10_pastOf 5 (some .int)) := rfl
theorem e_L13_676 : lk t_L13 676 = some (.if_icmp .eq 768, 679, 1444, [], .returned) := rfl
theorem e_L13_679 : lk t_L13 679 = some (.iconst 0, 680, 0, [], .constant "" 0 (0)) := rfl
def t_L14 : Tab := [(681, [], (.aload_n 1, 682, 1, [], .returned)),
  (682, [], (.aload_n 0, 683, 0, [], .returned)),
  (683, [], (.iload 4, 685, 4, [], .returned)),
  (685, [], (.iconst 1, 686, 0, [], .constant "" 0 (1))),
  (686, [], (.iadd, 687, 0, [], .returned)),
  (687, [], (.iaload, 688, 0, [], .returned)),
  (688, [], (.aload_n 0, 689, 0, [], .returned)),
  (689, [], (.iload 4, 691, 4, [], .returned)),
  (691, [], (.iconst 2, 692, 0, [], .constant "" 0 (2))),
  (692, [], (.iadd, 693, 0, [], .returned)),
  (693, [], (.iaload, 694, 0, [], .returned)),
  (694, [], (.aload_n 0, 695, 0, [], .returned)),
  (695, [], (.iload 4, 697, 4, [], .returned)),
  (697, [], (.iconst 3, 698, 0, [], .constant "" 0 (3))),
  (698, [], (.iadd, 699, 0, [], .returned)),
  (699, [], (.iaload, 700, 0, [], .returned)),
  (700, [], (.aload_n 0, 701, 0, [], .returned)),
  (701, [], (.iload 4, 703, 4, [], .returned)),
  (703, [], (.iconst 4, 704, 0, [], .constant "" 0 (4))),
  (704, [], (.iadd, 705, 0, [], .returned)),
  (705, [], (.iaload, 706, 0, [], .returned)),
  (706, [765, 768, 766, 767, 92], (.invokevirtual 75, 709, 0, [4, 9, 0, 0], .code yX9_would cX9_would 5 (some .int))),
  (709, [], (.aload_n 2, 710, 2, [], .returned)),
  (710, [], (.aload_n 0, 711, 0, [], .returned)),
  (711, [], (.iload 4, 713, 4, [], .returned)),
  (713, [], (.iconst 1, 714, 0, [], .constant "" 0 (1))),
  (714, [], (.iadd, 715, 0, [], .returned)),
  (715, [], (.iaload, 716, 0, [], .returned)),
  (716, [], (.aload_n 0, 717, 0, [], .returned)),
  (717, [], (.iload 4, 719, 4, [], .returned)),
  (719, [], (.iconst 2, 720, 0, [], .constant "" 0 (2))),
  (720, [], (.iadd, 721, 0, [], .returned)),
  (721, [], (.iaload, 722, 0, [], .returned)),
  (722, [], (.aload_n 0, 723, 0, [], .returned)),
  (723, [], (.iload 4, 725, 4, [], .returned)),
  (725, [], (.iconst 3, 726, 0, [], .constant "" 0 (3))),
  (726, [], (.iadd, 727, 0, [], .returned)),
  (727, [], (.iaload, 728, 0, [], .returned)),
  (728, [], (.aload_n 0, 729, 0, [], .returned)),
  (729, [], (.iload 4, 731, 4, [], .returned)),
  (731, [], (.iconst 4, 732, 0, [], .constant "" 0 (4))),
  (732, [], (.iadd, 733, 0, [], .returned)),
  (733, [], (.iaload, 734, 0, [], .returned)),
  (734, [1429, 1432, 1430, 1431, 102], (.invokevirtual 79, 737, 0, [4, 10, 0, 0], .code yX10_would cX10_would 5 (some .int))),
  (737, [], (.if_icmp .eq 707, 740, 1444, [], .returned)),
  (740, [], (.iconst 0, 741, 0, [], .constant "" 0 (0)))]
theorem ck_L14 : okT q_L_law t_L14 = true := by decide +kernel
theorem e_L14_681 : lk t_L14 681 = some (.aload_n 1, 682, 1, [], .returned) := rfl
theorem e_L14_682 : lk t_L14 682 = some (.aload_n 0, 683, 0, [], .returned) := rfl
theorem e_L14_683 : lk t_L14 683 = some (.iload 4, 685, 4, [], .returned) := rfl
theorem e_L14_685 : lk t_L14 685 = some (.iconst 1, 686, 0, [], .constant "" 0 (1)) := rfl
theorem e_L14_686 : lk t_L14 686 = some (.iadd, 687, 0, [], .returned) := rfl
theorem e_L14_687 : lk t_L14 687 = some (.iaload, 688, 0, [], .returned) := rfl
theorem e_L14_688 : lk t_L14 688 = some (.aload_n 0, 689, 0, [], .returned) := rfl
theorem e_L14_689 : lk t_L14 689 = some (.iload 4, 691, 4, [], .returned) := rfl
theorem e_L14_691 : lk t_L14 691 = some (.iconst 2, 692, 0, [], .constant "" 0 (2)) := rfl
theorem e_L14_692 : lk t_L14 692 = some (.iadd, 693, 0, [], .returned) := rfl
theorem e_L14_693 : lk t_L14 693 = some (.iaload, 694, 0, [], .returned) := rfl
theorem e_L14_694 : lk t_L14 694 = some (.aload_n 0, 695, 0, [], .returned) := rfl
theorem e_L14_695 : lk t_L14 695 = some (.iload 4, 697, 4, [], .returned) := rfl
theorem e_L14_697 : lk t_L14 697 = some (.iconst 3, 698, 0, [], .constant "" 0 (3)) := rfl
theorem e_L14_698 : lk t_L14 698 = some (.iadd, 699, 0, [], .returned) := rfl
theorem e_L14_699 : lk t_L14 699 = some (.iaload, 700, 0, [], .returned) := rfl
theorem e_L14_700 : lk t_L14 700 = some (.aload_n 0, 701, 0, [], .returned) := rfl
theorem e_L14_701 : lk t_L14 701 = some (.iload 4, 703, 4, [], .returned) := rfl
theorem e_L14_703 : lk t_L14 703 = some (.iconst 4, 704, 0, [], .constant "" 0 (4)) := rfl
theorem e_L14_704 : lk t_L14 704 = some (.iadd, 705, 0, [], .returned) := rfl
theorem e_L14_705 : lk t_L14 705 = some (.iaload, 706, 0, [], .returned) := rfl
theorem e_L14_706 : lk t_L14 706 = some (.invokevirtual 75, 709, 0, [4, 9, 0, 0], .code yX9_would cX9_would 5 (some .int)) := rfl
theorem e_L14_709 : lk t_L14 709 = some (.aload_n 2, 710, 2, [], .returned) := rfl
theorem e_L14_710 : lk t_L14 710 = some (.aload_n 0, 711, 0, [], .returned) := rfl
theorem e_L14_711 : lk t_L14 711 = some (.iload 4, 713, 4, [], .returned) := rfl
theorem e_L14_713 : lk t_L14 713 = some (.iconst 1, 714, 0, [], .constant "" 0 (1)) := rfl
theorem e_L14_714 : lk t_L14 714 = some (.iadd, 715, 0, [], .returned) := rfl
theorem e_L14_715 : lk t_L14 715 = some (.iaload, 716, 0, [], .returned) := rfl
theorem e_L14_716 : lk t_L14 716 = some (.aload_n 0, 717, 0, [], .returned) := rfl
theorem e_L14_717 : lk t_L14 717 = some (.iload 4, 719, 4, [], .returned) := rfl
theorem e_L14_719 : lk t_L14 719 = some (.iconst 2, 720, 0, [], .constant "" 0 (2)) := rfl
theorem e_L14_720 : lk t_L14 720 = some (.iadd, 721, 0, [], .returned) := rfl
theorem e_L14_721 : lk t_L14 721 = some (.iaload, 722, 0, [], .returned) := rfl
theorem e_L14_722 : lk t_L14 722 = some (.aload_n 0, 723, 0, [], .returned) := rfl
theorem e_L14_723 : lk t_L14 723 = some (.iload 4, 725, 4, [], .returned) := rfl
theorem e_L14_725 : lk t_L14 725 = some (.iconst 3, 726, 0, [], .constant "" 0 (3)) := rfl
theorem e_L14_726 : lk t_L14 726 = some (.iadd, 727, 0, [], .returned) := rfl
theorem e_L14_727 : lk t_L14 727 = some (.iaload, 728, 0, [], .returned) := rfl
theorem e_L14_728 : lk t_L14 728 = some (.aload_n 0, 729, 0, [], .returned) := rfl
theorem e_L14_729 : lk t_L14 729 = some (.iload 4, 731, 4, [], .returned) := rfl
theorem e_L14_731 : lk t_L14 731 = some (.iconst 4, 732, 0, [], .constant "" 0 (4)) := rfl
theorem e_L14_732 : lk t_L14 732 = some (.iadd, 733, 0, [], .returned) := rfl
theorem e_L14_733 : lk t_L14 733 = some (.iaload, 734, 0, [], .returned) := rfl
theorem e_L14_734 : lk t_L14 734 = some (.invokevirtual 79, 737, 0, [4, 10, 0, 0], .code yX10_would cX10_would 5 (some .int)) := rfl
theorem e_L14_737 : lk t_L14 737 = some (.if_icmp .eq 707, 740, 1444, [], .returned) := rfl
theorem e_L14_740 : lk t_L14 740 = some (.iconst 0, 741, 0, [], .constant "" 0 (0)) := rfl
def t_L15 : Tab := [(742, [], (.aload_n 1, 743, 1, [], .returned)),
  (743, [], (.aload_n 0, 744, 0, [], .returned)),
  (744, [], (.iload 4, 746, 4, [], .returned)),
  (746, [], (.iconst 1, 747, 0, [], .constant "" 0 (1))),
  (747, [], (.iadd, 748, 0, [], .returned)),
  (748, [], (.iaload, 749, 0, [], .returned)),
  (749, [], (.aload_n 0, 750, 0, [], .returned)),
  (750, [], (.iload 4, 752, 4, [], .returned)),
  (752, [], (.iconst 2, 753, 0, [], .constant "" 0 (2))),
  (753, [], (.iadd, 754, 0, [], .returned)),
  (754, [], (.iaload, 755, 0, [], .returned)),
  (755, [834, 837, 835, 836, 92], (.invokevirtual 80, 758, 0, [2, 9, 0, 0], .code yX9_left cX9_left 3 (some .int))),
  (758, [], (.aload_n 2, 759, 2, [], .returned)),
  (759, [], (.aload_n 0, 760, 0, [], .returned)),
  (760, [], (.iload 4, 762, 4, [], .returned)),
  (762, [], (.iconst 1, 763, 0, [], .constant "" 0 (1))),
  (763, [], (.iadd, 764, 0, [], .returned)),
  (764, [], (.iaload, 765, 0, [], .returned)),
  (765, [], (.aload_n 0, 766, 0, [], .returned)),
  (766, [], (.iload 4, 768, 4, [], .returned)),
  (768, [], (.iconst 2, 769, 0, [], .constant "" 0 (2))),
  (769, [], (.iadd, 770, 0, [], .returned)),
  (770, [], (.iaload, 771, 0, [], .returned)),
  (771, [1489, 1492, 1490, 1491, 102], (.invokevirtual 83, 774, 0, [2, 10, 0, 0], .code yX10_left cX10_left 3 (some .int))),
  (774, [], (.if_icmp .eq 670, 777, 1444, [], .returned)),
  (777, [], (.iconst 0, 778, 0, [], .constant "" 0 (0)))]
theorem ck_L15 : okT q_L_law t_L15 = true := by decide +kernel
theorem e_L15_742 : lk t_L15 742 = some (.aload_n 1, 743, 1, [], .returned) := rfl
theorem e_L15_743 : lk t_L15 743 = some (.aload_n 0, 744, 0, [], .returned) := rfl
theorem e_L15_744 : lk t_L15 744 = some (.iload 4, 746, 4, [], .returned) := rfl
theorem e_L15_746 : lk t_L15 746 = some (.iconst 1, 747, 0, [], .constant "" 0 (1)) := rfl
theorem e_L15_747 : lk t_L15 747 = some (.iadd, 748, 0, [], .returned) := rfl
theorem e_L15_748 : lk t_L15 748 = some (.iaload, 749, 0, [], .returned) := rfl
theorem e_L15_749 : lk t_L15 749 = some (.aload_n 0, 750, 0, [], .returned) := rfl
theorem e_L15_750 : lk t_L15 750 = some (.iload 4, 752, 4, [], .returned) := rfl
theorem e_L15_752 : lk t_L15 752 = some (.iconst 2, 753, 0, [], .constant "" 0 (2)) := rfl
theorem e_L15_753 : lk t_L15 753 = some (.iadd, 754, 0, [], .returned) := rfl
theorem e_L15_754 : lk t_L15 754 = some (.iaload, 755, 0, [], .returned) := rfl
theorem e_L15_755 : lk t_L15 755 = some (.invokevirtual 80, 758, 0, [2, 9, 0, 0], .code yX9_left cX9_left 3 (some .int)) := rfl
theorem e_L15_758 : lk t_L15 758 = some (.aload_n 2, 759, 2, [], .returned) := rfl
theorem e_L15_759 : lk t_L15 759 = some (.aload_n 0, 760, 0, [], .returned) := rfl
theorem e_L15_760 : lk t_L15 760 = some (.iload 4, 762, 4, [], .returned) := rfl
theorem e_L15_762 : lk t_L15 762 = some (.iconst 1, 763, 0, [], .constant "" 0 (1)) := rfl
theorem e_L15_763 : lk t_L15 763 = some (.iadd, 764, 0, [], .returned) := rfl
theorem e_L15_764 : lk t_L15 764 = some (.iaload, 765, 0, [], .returned) := rfl
theorem e_L15_765 : lk t_L15 765 = some (.aload_n 0, 766, 0, [], .returned) := rfl
theorem e_L15_766 : lk t_L15 766 = some (.iload 4, 768, 4, [], .returned) := rfl
theorem e_L15_768 : lk t_L15 768 = some (.iconst 2, 769, 0, [], .constant "" 0 (2)) := rfl
theorem e_L15_769 : lk t_L15 769 = some (.iadd, 770, 0, [], .returned) := rfl
theorem e_L15_770 : lk t_L15 770 = some (.iaload, 771, 0, [], .returned) := rfl
theorem e_L15_771 : lk t_L15 771 = some (.invokevirtual 83, 774, 0, [2, 10, 0, 0], .code yX10_left cX10_left 3 (some .int)) := rfl
theorem e_L15_774 : lk t_L15 774 = some (.if_icmp .eq 670, 777, 1444, [], .returned) := rfl
theorem e_L15_777 : lk t_L15 777 = some (.iconst 0, 778, 0, [], .constant "" 0 (0)) := rfl
def t_L16 : Tab := [(779, [], (.aload_n 1, 780, 1, [], .returned)),
  (780, [], (.aload_n 0, 781, 0, [], .returned)),
  (781, [], (.iload 4, 783, 4, [], .returned)),
  (783, [], (.iconst 1, 784, 0, [], .constant "" 0 (1))),
  (784, [], (.iadd, 785, 0, [], .returned)),
  (785, [], (.iaload, 786, 0, [], .returned)),
  (786, [], (.aload_n 0, 787, 0, [], .returned)),
  (787, [], (.iload 4, 789, 4, [], .returned)),
  (789, [], (.iconst 2, 790, 0, [], .constant "" 0 (2))),
  (790, [], (.iadd, 791, 0, [], .returned)),
  (791, [], (.iaload, 792, 0, [], .returned)),
  (792, [], (.aload_n 0, 793, 0, [], .returned)),
  (793, [], (.iload 4, 795, 4, [], .returned)),
  (795, [], (.iconst 3, 796, 0, [], .constant "" 0 (3))),
  (796, [], (.iadd, 797, 0, [], .returned)),
  (797, [], (.iaload, 798, 0, [], .returned)),
  (798, [838, 841, 839, 840, 92], (.invokevirtual 84, 801, 0, [3, 9, 0, 0], .code yX9_ranked cX9_ranked 6 (some .int))),
  (801, [], (.aload_n 2, 802, 2, [], .returned)),
  (802, [], (.aload_n 0, 803, 0, [], .returned)),
  (803, [], (.iload 4, 805, 4, [], .returned)),
  (805, [], (.iconst 1, 806, 0, [], .constant "" 0 (1))),
  (806, [], (.iadd, 807, 0, [], .returned)),
  (807, [], (.iaload, 808, 0, [], .returned)),
  (808, [], (.aload_n 0, 809, 0, [], .returned)),
  (809, [], (.iload 4, 811, 4, [], .returned)),
  (811, [], (.iconst 2, 812, 0, [], .constant "" 0 (2))),
  (812, [], (.iadd, 813, 0, [], .returned)),
  (813, [], (.iaload, 814, 0, [], .returned)),
  (814, [], (.aload_n 0, 815, 0, [], .returned)),
  (815, [], (.iload 4, 817, 4, [], .returned)),
  (817, [], (.iconst 3, 818, 0, [], .constant "" 0 (3))),
  (818, [], (.iadd, 819, 0, [], .returned)),
  (819, [], (.iaload, 820, 0, [], .returned)),
  (820, [1493, 1496, 1494, 1495, 102], (.invokevirtual 87, 823, 0, [3, 10, 0, 0], .code yX10_ranked cX10_ranked 6 (some .int))),
  (823, [], (.if_icmp .eq 621, 826, 1444, [], .returned)),
  (826, [], (.iconst 0, 827, 0, [], .constant "" 0 (0)))]
theorem ck_L16 : okT q_L_law t_L16 = true := by decide +kernel
theorem e_L16_779 : lk t_L16 779 = some (.aload_n 1, 780, 1, [], .returned) := rfl
theorem e_L16_780 : lk t_L16 780 = some (.aload_n 0, 781, 0, [], .returned) := rfl
theorem e_L16_781 : lk t_L16 781 = some (.iload 4, 783, 4, [], .returned) := rfl
theorem e_L16_783 : lk t_L16 783 = some (.iconst 1, 784, 0, [], .constant "" 0 (1)) := rfl
theorem e_L16_784 : lk t_L16 784 = some (.iadd, 785, 0, [], .returned) := rfl
theorem e_L16_785 : lk t_L16 785 = some (.iaload, 786, 0, [], .returned) := rfl
theorem e_L16_786 : lk t_L16 786 = some (.aload_n 0, 787, 0, [], .returned) := rfl
theorem e_L16_787 : lk t_L16 787 = some (.iload 4, 789, 4, [], .returned) := rfl
theorem e_L16_789 : lk t_L16 789 = some (.iconst 2, 790, 0, [], .constant "" 0 (2)) := rfl
theorem e_L16_790 : lk t_L16 790 = some (.iadd, 791, 0, [], .returned) := rfl
theorem e_L16_791 : lk t_L16 791 = some (.iaload, 792, 0, [], .returned) := rfl
theorem e_L16_792 : lk t_L16 792 = some (.aload_n 0, 793, 0, [], .returned) := rfl
theorem e_L16_793 : lk t_L16 793 = some (.iload 4, 795, 4, [], .returned) := rfl
theorem e_L16_795 : lk t_L16 795 = some (.iconst 3, 796, 0, [], .constant "" 0 (3)) := rfl
theorem e_L16_796 : lk t_L16 796 = some (.iadd, 797, 0, [], .returned) := rfl
theorem e_L16_797 : lk t_L16 797 = some (.iaload, 798, 0, [], .returned) := rfl
theorem e_L16_798 : lk t_L16 798 = some (.invokevirtual 84, 801, 0, [3, 9, 0, 0], .code yX9_ranked cX9_ranked 6 (some .int)) := rfl
theorem e_L16_801 : lk t_L16 801 = some (.aload_n 2, 802, 2, [], .returned) := rfl
theorem e_L16_802 : lk t_L16 802 = some (.aload_n 0, 803, 0, [], .returned) := rfl
theorem e_L16_803 : lk t_L16 803 = some (.iload 4, 805, 4, [], .returned) := rfl
theorem e_L16_805 : lk t_L16 805 = some (.iconst 1, 806, 0, [], .constant "" 0 (1)) := rfl
theorem e_L16_806 : lk t_L16 806 = some (.iadd, 807, 0, [], .returned) := rfl
theorem e_L16_807 : lk t_L16 807 = some (.iaload, 808, 0, [], .returned) := rfl
theorem e_L16_808 : lk t_L16 808 = some (.aload_n 0, 809, 0, [], .returned) := rfl
theorem e_L16_809 : lk t_L16 809 = some (.iload 4, 811, 4, [], .returned) := rfl
theorem e_L16_811 : lk t_L16 811 = some (.iconst 2, 812, 0, [], .constant "" 0 (2)) := rfl
theorem e_L16_812 : lk t_L16 812 = some (.iadd, 813, 0, [], .returned) := rfl
theorem e_L16_813 : lk t_L16 813 = some (.iaload, 814, 0, [], .returned) := rfl
theorem e_L16_814 : lk t_L16 814 = some (.aload_n 0, 815, 0, [], .returned) := rfl
theorem e_L16_815 : lk t_L16 815 = some (.iload 4, 817, 4, [], .returned) := rfl
theorem e_L16_817 : lk t_L16 817 = some (.iconst 3, 818, 0, [], .constant "" 0 (3)) := rfl
theorem e_L16_818 : lk t_L16 818 = some (.iadd, 819, 0, [], .returned) := rfl
theorem e_L16_819 : lk t_L16 819 = some (.iaload, 820, 0, [], .returned) := rfl
theorem e_L16_820 : lk t_L16 820 = some (.invokevirtual 87, 823, 0, [3, 10, 0, 0], .code yX10_ranked cX10_ranked 6 (some .int)) := rfl
theorem e_L16_823 : lk t_L16 823 = some (.if_icmp .eq 621, 826, 1444, [], .returned) := rfl
theorem e_L16_826 : lk t_L16 826 = some (.iconst 0, 827, 0, [], .constant "" 0 (0)) := rfl
def t_L17 : Tab := [(828, [], (.aload_n 1, 829, 1, [], .returned)),
  (829, [], (.aload_n 0, 830, 0, [], .returned)),
  (830, [], (.iload 4, 832, 4, [], .returned)),
  (832, [], (.iconst 1, 833, 0, [], .constant "" 0 (1))),
  (833, [], (.iadd, 834, 0, [], .returned)),
  (834, [], (.iaload, 835, 0, [], .returned)),
  (835, [], (.aload_n 0, 836, 0, [], .returned)),
  (836, [], (.iload 4, 838, 4, [], .returned)),
  (838, [], (.iconst 2, 839, 0, [], .constant "" 0 (2))),
  (839, [], (.iadd, 840, 0, [], .returned)),
  (840, [], (.iaload, 841, 0, [], .returned)),
  (841, [842, 845, 843, 844, 92], (.invokevirtual 88, 844, 0, [2, 9, 0, 0], .code yX9_enough cX9_enough 4 (some .int))),
  (844, [], (.aload_n 2, 845, 2, [], .returned)),
  (845, [], (.aload_n 0, 846, 0, [], .returned)),
  (846, [], (.iload 4, 848, 4, [], .returned)),
  (848, [], (.iconst 1, 849, 0, [], .constant "" 0 (1))),
  (849, [], (.iadd, 850, 0, [], .returned)),
  (850, [], (.iaload, 851, 0, [], .returned)),
  (851, [], (.aload_n 0, 852, 0, [], .returned)),
  (852, [], (.iload 4, 854, 4, [], .returned)),
  (854, [], (.iconst 2, 855, 0, [], .constant "" 0 (2))),
  (855, [], (.iadd, 856, 0, [], .returned)),
  (856, [], (.iaload, 857, 0, [], .returned)),
  (857, [1497, 1500, 1498, 1499, 102], (.invokevirtual 91, 860, 0, [2, 10, 0, 0], .code yX10_enough cX10_enough 4 (some .int))),
  (860, [], (.if_icmp .eq 584, 863, 1444, [], .returned)),
  (863, [], (.iconst 0, 864, 0, [], .constant "" 0 (0)))]
theorem ck_L17 : okT q_L_law t_L17 = true := by decide +kernel
theorem e_L17_828 : lk t_L17 828 = some (.aload_n 1, 829, 1, [], .returned) := rfl
theorem e_L17_829 : lk t_L17 829 = some (.aload_n 0, 830, 0, [], .returned) := rfl
theorem e_L17_830 : lk t_L17 830 = some (.iload 4, 832, 4, [], .returned) := rfl
theorem e_L17_832 : lk t_L17 832 = some (.iconst 1, 833, 0, [], .constant "" 0 (1)) := rfl
theorem e_L17_833 : lk t_L17 833 = some (.iadd, 834, 0, [], .returned) := rfl
theorem e_L17_834 : lk t_L17 834 = some (.iaload, 835, 0, [], .returned) := rfl
theorem e_L17_835 : lk t_L17 835 = some (.aload_n 0, 836, 0, [], .returned) := rfl
theorem e_L17_836 : lk t_L17 836 = some (.iload 4, 838, 4, [], .returned) := rfl
theorem e_L17_838 : lk t_L17 838 = some (.iconst 2, 839, 0, [], .constant "" 0 (2)) := rfl
theorem e_L17_839 : lk t_L17 839 = some (.iadd, 840, 0, [], .returned) := rfl
theorem e_L17_840 : lk t_L17 840 = some (.iaload, 841, 0, [], .returned) := rfl
theorem e_L17_841 : lk t_L17 841 = some (.invokevirtual 88, 844, 0, [2, 9, 0, 0], .code yX9_enough cX9_enough 4 (some .int)) := rfl
theorem e_L17_844 : lk t_L17 844 = some (.aload_n 2, 845, 2, [], .returned) := rfl
theorem e_L17_845 : lk t_L17 845 = some (.aload_n 0, 846, 0, [], .returned) := rfl
theorem e_L17_846 : lk t_L17 846 = some (.iload 4, 848, 4, [], .returned) := rfl
theorem e_L17_848 : lk t_L17 848 = some (.iconst 1, 849, 0, [], .constant "" 0 (1)) := rfl
theorem e_L17_849 : lk t_L17 849 = some (.iadd, 850, 0, [], .returned) := rfl
theorem e_L17_850 : lk t_L17 850 = some (.iaload, 851, 0, [], .returned) := rfl
theorem e_L17_851 : lk t_L17 851 = some (.aload_n 0, 852, 0, [], .returned) := rfl
theorem e_L17_852 : lk t_L17 852 = some (.iload 4, 854, 4, [], .returned) := rfl
theorem e_L17_854 : lk t_L17 854 = some (.iconst 2, 855, 0, [], .constant "" 0 (2)) := rfl
theorem e_L17_855 : lk t_L17 855 = some (.iadd, 856, 0, [], .returned) := rfl
theorem e_L17_856 : lk t_L17 856 = some (.iaload, 857, 0, [], .returned) := rfl
theorem e_L17_857 : lk t_L17 857 = some (.invokevirtual 91, 860, 0, [2, 10, 0, 0], .code yX10_enough cX10_enough 4 (some .int)) := rfl
theorem e_L17_860 : lk t_L17 860 = some (.if_icmp .eq 584, 863, 1444, [], .returned) := rfl
theorem e_L17_863 : lk t_L17 863 = some (.iconst 0, 864, 0, [], .constant "" 0 (0)) := rfl
def t_L18 : Tab := [(865, [], (.aload_n 1, 866, 1, [], .returned)),
  (866, [], (.aload_n 0, 867, 0, [], .returned)),
  (867, [], (.iload 4, 869, 4, [], .returned)),
  (869, [], (.iconst 1, 870, 0, [], .constant "" 0 (1))),
  (870, [], (.iadd, 871, 0, [], .returned)),
  (871, [], (.iaload, 872, 0, [], .returned)),
  (872, [], (.aload_n 0, 873, 0, [], .returned)),
  (873, [], (.iload 4, 875, 4, [], .returned)),
  (875, [], (.iconst 2, 876, 0, [], .constant "" 0 (2))),
  (876, [], (.iadd, 877, 0, [], .returned)),
  (877, [], (.iaload, 878, 0, [], .returned)),
  (878, [847, 850, 848, 849, 92], (.invokevirtual 92, 881, 0, [2, 9, 0, 0], .code yX9_first cX9_first 4 (some .int))),
  (881, [], (.aload_n 2, 882, 2, [], .returned)),
  (882, [], (.aload_n 0, 883, 0, [], .returned)),
  (883, [], (.iload 4, 885, 4, [], .returned)),
  (885, [], (.iconst 1, 886, 0, [], .constant "" 0 (1))),
  (886, [], (.iadd, 887, 0, [], .returned)),
  (887, [], (.iaload, 888, 0, [], .returned)),
  (888, [], (.aload_n 0, 889, 0, [], .returned)),
  (889, [], (.iload 4, 891, 4, [], .returned)),
  (891, [], (.iconst 2, 892, 0, [], .constant "" 0 (2))),
  (892, [], (.iadd, 893, 0, [], .returned)),
  (893, [], (.iaload, 894, 0, [], .returned)),
  (894, [1501, 1504, 1502, 1503, 102], (.invokevirtual 95, 897, 0, [2, 10, 0, 0], .code yX10_first cX10_first 4 (some .int))),
  (897, [], (.if_icmp .eq 547, 900, 1444, [], .returned)),
  (900, [], (.iconst 0, 901, 0, [], .constant "" 0 (0)))]
theorem ck_L18 : okT q_L_law t_L18 = true := by decide +kernel
theorem e_L18_865 : lk t_L18 865 = some (.aload_n 1, 866, 1, [], .returned) := rfl
theorem e_L18_866 : lk t_L18 866 = some (.aload_n 0, 867, 0, [], .returned) := rfl
theorem e_L18_867 : lk t_L18 867 = some (.iload 4, 869, 4, [], .returned) := rfl
theorem e_L18_869 : lk t_L18 869 = some (.iconst 1, 870, 0, [], .constant "" 0 (1)) := rfl
theorem e_L18_870 : lk t_L18 870 = some (.iadd, 871, 0, [], .returned) := rfl
theorem e_L18_871 : lk t_L18 871 = some (.iaload, 872, 0, [], .returned) := rfl
theorem e_L18_872 : lk t_L18 872 = some (.aload_n 0, 873, 0, [], .returned) := rfl
theorem e_L18_873 : lk t_L18 873 = some (.iload 4, 875, 4, [], .returned) := rfl
theorem e_L18_875 : lk t_L18 875 = some (.iconst 2, 876, 0, [], .constant "" 0 (2)) := rfl
theorem e_L18_876 : lk t_L18 876 = some (.iadd, 877, 0, [], .returned) := rfl
theorem e_L18_877 : lk t_L18 877 = some (.iaload, 878, 0, [], .returned) := rfl
theorem e_L18_878 : lk t_L18 878 = some (.invokevirtual 92, 881, 0, [2, 9, 0, 0], .code yX9_first cX9_first 4 (some .int)) := rfl
theorem e_L18_881 : lk t_L18 881 = some (.aload_n 2, 882, 2, [], .returned) := rfl
theorem e_L18_882 : lk t_L18 882 = some (.aload_n 0, 883, 0, [], .returned) := rfl
theorem e_L18_883 : lk t_L18 883 = some (.iload 4, 885, 4, [], .returned) := rfl
theorem e_L18_885 : lk t_L18 885 = some (.iconst 1, 886, 0, [], .constant "" 0 (1)) := rfl
theorem e_L18_886 : lk t_L18 886 = some (.iadd, 887, 0, [], .returned) := rfl
theorem e_L18_887 : lk t_L18 887 = some (.iaload, 888, 0, [], .returned) := rfl
theorem e_L18_888 : lk t_L18 888 = some (.aload_n 0, 889, 0, [], .returned) := rfl
theorem e_L18_889 : lk t_L18 889 = some (.iload 4, 891, 4, [], .returned) := rfl
theorem e_L18_891 : lk t_L18 891 = some (.iconst 2, 892, 0, [], .constant "" 0 (2)) := rfl
theorem e_L18_892 : lk t_L18 892 = some (.iadd, 893, 0, [], .returned) := rfl
theorem e_L18_893 : lk t_L18 893 = some (.iaload, 894, 0, [], .returned) := rfl
theorem e_L18_894 : lk t_L18 894 = some (.invokevirtual 95, 897, 0, [2, 10, 0, 0], .code yX10_first cX10_first 4 (some .int)) := rfl
theorem e_L18_897 : lk t_L18 897 = some (.if_icmp .eq 547, 900, 1444, [], .returned) := rfl
theorem e_L18_900 : lk t_L18 900 = some (.iconst 0, 901, 0, [], .constant "" 0 (0)) := rfl
def t_L19 : Tab := [(902, [], (.aload_n 1, 903, 1, [], .returned)),
  (903, [], (.aload_n 0, 904, 0, [], .returned)),
  (904, [], (.iload 4, 906, 4, [], .returned)),
  (906, [], (.iconst 1, 907, 0, [], .constant "" 0 (1))),
  (907, [], (.iadd, 908, 0, [], .returned)),
  (908, [], (.iaload, 909, 0, [], .returned)),
  (909, [], (.aload_n 0, 910, 0, [], .returned)),
  (910, [], (.iload 4, 912, 4, [], .returned)),
  (912, [], (.iconst 2, 913, 0, [], .constant "" 0 (2))),
  (913, [], (.iadd, 914, 0, [], .returned)),
  (914, [], (.iaload, 915, 0, [], .returned)),
  (915, [851, 854, 852, 853, 92], (.invokevirtual 96, 918, 0, [2, 9, 0, 0], .code yX9_done cX9_done 4 (some .int))),
  (918, [], (.aload_n 2, 919, 2, [], .returned)),
  (919, [], (.aload_n 0, 920, 0, [], .returned)),
  (920, [], (.iload 4, 922, 4, [], .returned)),
  (922, [], (.iconst 1, 923, 0, [], .constant "" 0 (1))),
  (923, [], (.iadd, 924, 0, [], .returned)),
  (924, [], (.iaload, 925, 0, [], .returned)),
  (925, [], (.aload_n 0, 926, 0, [], .returned)),
  (926, [], (.iload 4, 928, 4, [], .returned)),
  (928, [], (.iconst 2, 929, 0, [], .constant "" 0 (2))),
  (929, [], (.iadd, 930, 0, [], .returned)),
  (930, [], (.iaload, 931, 0, [], .returned)),
  (931, [1505, 1508, 1506, 1507, 102], (.invokevirtual 99, 934, 0, [2, 10, 0, 0], .code yX10_done cX10_done 4 (some .int))),
  (934, [], (.if_icmp .eq 510, 937, 1444, [], .returned)),
  (937, [], (.iconst 0, 938, 0, [], .constant "" 0 (0)))]
theorem ck_L19 : okT q_L_law t_L19 = true := by decide +kernel
theorem e_L19_902 : lk t_L19 902 = some (.aload_n 1, 903, 1, [], .returned) := rfl
theorem e_L19_903 : lk t_L19 903 = some (.aload_n 0, 904, 0, [], .returned) := rfl
theorem e_L19_904 : lk t_L19 904 = some (.iload 4, 906, 4, [], .returned) := rfl
theorem e_L19_906 : lk t_L19 906 = some (.iconst 1, 907, 0, [], .constant "" 0 (1)) := rfl
theorem e_L19_907 : lk t_L19 907 = some (.iadd, 908, 0, [], .returned) := rfl
theorem e_L19_908 : lk t_L19 908 = some (.iaload, 909, 0, [], .returned) := rfl
theorem e_L19_909 : lk t_L19 909 = some (.aload_n 0, 910, 0, [], .returned) := rfl
theorem e_L19_910 : lk t_L19 910 = some (.iload 4, 912, 4, [], .returned) := rfl
theorem e_L19_912 : lk t_L19 912 = some (.iconst 2, 913, 0, [], .constant "" 0 (2)) := rfl
theorem e_L19_913 : lk t_L19 913 = some (.iadd, 914, 0, [], .returned) := rfl
theorem e_L19_914 : lk t_L19 914 = some (.iaload, 915, 0, [], .returned) := rfl
theorem e_L19_915 : lk t_L19 915 = some (.invokevirtual 96, 918, 0, [2, 9, 0, 0], .code yX9_done cX9_done 4 (some .int)) := rfl
theorem e_L19_918 : lk t_L19 918 = some (.aload_n 2, 919, 2, [], .returned) := rfl
theorem e_L19_919 : lk t_L19 919 = some (.aload_n 0, 920, 0, [], .returned) := rfl
theorem e_L19_920 : lk t_L19 920 = some (.iload 4, 922, 4, [], .returned) := rfl
theorem e_L19_922 : lk t_L19 922 = some (.iconst 1, 923, 0, [], .constant "" 0 (1)) := rfl
theorem e_L19_923 : lk t_L19 923 = some (.iadd, 924, 0, [], .returned) := rfl
theorem e_L19_924 : lk t_L19 924 = some (.iaload, 925, 0, [], .returned) := rfl
theorem e_L19_925 : lk t_L19 925 = some (.aload_n 0, 926, 0, [], .returned) := rfl
theorem e_L19_926 : lk t_L19 926 = some (.iload 4, 928, 4, [], .returned) := rfl
theorem e_L19_928 : lk t_L19 928 = some (.iconst 2, 929, 0, [], .constant "" 0 (2)) := rfl
theorem e_L19_929 : lk t_L19 929 = some (.iadd, 930, 0, [], .returned) := rfl
theorem e_L19_930 : lk t_L19 930 = some (.iaload, 931, 0, [], .returned) := rfl
theorem e_L19_931 : lk t_L19 931 = some (.invokevirtual 99, 934, 0, [2, 10, 0, 0], .code yX10_done cX10_done 4 (some .int)) := rfl
theorem e_L19_934 : lk t_L19 934 = some (.if_icmp .eq 510, 937, 1444, [], .returned) := rfl
theorem e_L19_937 : lk t_L19 937 = some (.iconst 0, 938, 0, [], .constant "" 0 (0)) := rfl
def t_L20 : Tab := [(939, [], (.aload_n 1, 940, 1, [], .returned)),
  (940, [], (.aload_n 0, 941, 0, [], .returned)),
  (941, [], (.iload 4, 943, 4, [], .returned)),
  (943, [], (.iconst 1, 944, 0, [], .constant "" 0 (1))),
  (944, [], (.iadd, 945, 0, [], .returned)),
  (945, [], (.iaload, 946, 0, [], .returned)),
  (946, [], (.aload_n 0, 947, 0, [], .returned)),
  (947, [], (.iload 4, 949, 4, [], .returned)),
  (949, [], (.iconst 2, 950, 0, [], .constant "" 0 (2))),
  (950, [], (.iadd, 951, 0, [], .returned)),
  (951, [], (.iaload, 952, 0, [], .returned)),
  (952, [], (.aload_n 0, 953, 0, [], .returned)),
  (953, [], (.iload 4, 955, 4, [], .returned)),
  (955, [], (.iconst 3, 956, 0, [], .constant "" 0 (3))),
  (956, [], (.iadd, 957, 0, [], .returned)),
  (957, [], (.iaload, 958, 0, [], .returned)),
  (958, [], (.aload_n 0, 959, 0, [], .returned)),
  (959, [], (.iload 4, 961, 4, [], .returned)),
  (961, [], (.iconst 4, 962, 0, [], .constant "" 0 (4))),
  (962, [], (.iadd, 963, 0, [], .returned)),
  (963, [], (.iaload, 964, 0, [], .returned)),
  (964, [886, 889, 887, 888, 92], (.invokevirtual 100, 967, 0, [4, 9, 0, 0], .code yX9_ahead cX9_ahead 6 (some .int))),
  (967, [], (.aload_n 2, 968, 2, [], .returned)),
  (968, [], (.aload_n 0, 969, 0, [], .returned)),
  (969, [], (.iload 4, 971, 4, [], .returned)),
  (971, [], (.iconst 1, 972, 0, [], .constant "" 0 (1))),
  (972, [], (.iadd, 973, 0, [], .returned)),
  (973, [], (.iaload, 974, 0, [], .returned)),
  (974, [], (.aload_n 0, 975, 0, [], .returned)),
  (975, [], (.iload 4, 977, 4, [], .returned)),
  (977, [], (.iconst 2, 978, 0, [], .constant "" 0 (2))),
  (978, [], (.iadd, 979, 0, [], .returned)),
  (979, [], (.iaload, 980, 0, [], .returned)),
  (980, [], (.aload_n 0, 981, 0, [], .returned)),
  (981, [], (.iload 4, 983, 4, [], .returned)),
  (983, [], (.iconst 3, 984, 0, [], .constant "" 0 (3))),
  (984, [], (.iadd, 985, 0, [], .returned)),
  (985, [], (.iaload, 986, 0, [], .returned)),
  (986, [], (.aload_n 0, 987, 0, [], .returned)),
  (987, [], (.iload 4, 989, 4, [], .returned)),
  (989, [], (.iconst 4, 990, 0, [], .constant "" 0 (4))),
  (990, [], (.iadd, 991, 0, [], .returned)),
  (991, [], (.iaload, 992, 0, [], .returned)),
  (992, [1525, 1528, 1526, 1527, 102], (.invokevirtual 103, 995, 0, [4, 10, 0, 0], .code yX10_ahead cX10_ahead 6 (some .int))),
  (995, [], (.if_icmp .eq 449, 998, 1444, [], .returned)),
  (998, [], (.iconst 0, 999, 0, [], .constant "" 0 (0)))]
theorem ck_L20 : okT q_L_law t_L20 = true := by decide +kernel
theorem e_L20_939 : lk t_L20 939 = some (.aload_n 1, 940, 1, [], .returned) := rfl
theorem e_L20_940 : lk t_L20 940 = some (.aload_n 0, 941, 0, [], .returned) := rfl
theorem e_L20_941 : lk t_L20 941 = some (.iload 4, 943, 4, [], .returned) := rfl
theorem e_L20_943 : lk t_L20 943 = some (.iconst 1, 944, 0, [], .constant "" 0 (1)) := rfl
theorem e_L20_944 : lk t_L20 944 = some (.iadd, 945, 0, [], .returned) := rfl
theorem e_L20_945 : lk t_L20 945 = some (.iaload, 946, 0, [], .returned) := rfl
theorem e_L20_946 : lk t_L20 946 = some (.aload_n 0, 947, 0, [], .returned) := rfl
theorem e_L20_947 : lk t_L20 947 = some (.iload 4, 949, 4, [], .returned) := rfl
theorem e_L20_949 : lk t_L20 949 = some (.iconst 2, 950, 0, [], .constant "" 0 (2)) := rfl
theorem e_L20_950 : lk t_L20 950 = some (.iadd, 951, 0, [], .returned) := rfl
theorem e_L20_951 : lk t_L20 951 = some (.iaload, 952, 0, [], .returned) := rfl
theorem e_L20_952 : lk t_L20 952 = some (.aload_n 0, 953, 0, [], .returned) := rfl
theorem e_L20_953 : lk t_L20 953 = some (.iload 4, 955, 4, [], .returned) := rfl
theorem e_L20_955 : lk t_L20 955 = some (.iconst 3, 956, 0, [], .constant "" 0 (3)) := rfl
theorem e_L20_956 : lk t_L20 956 = some (.iadd, 957, 0, [], .returned) := rfl
theorem e_L20_957 : lk t_L20 957 = some (.iaload, 958, 0, [], .returned) := rfl
theorem e_L20_958 : lk t_L20 958 = some (.aload_n 0, 959, 0, [], .returned) := rfl
theorem e_L20_959 : lk t_L20 959 = some (.iload 4, 961, 4, [], .returned) := rfl
theorem e_L20_961 : lk t_L20 961 = some (.iconst 4, 962, 0, [], .constant "" 0 (4)) := rfl
theorem e_L20_962 : lk t_L20 962 = some (.iadd, 963, 0, [], .returned) := rfl
theorem e_L20_963 : lk t_L20 963 = some (.iaload, 964, 0, [], .returned) := rfl
theorem e_L20_964 : lk t_L20 964 = some (.invokevirtual 100, 967, 0, [4, 9, 0, 0], .code yX9_ahead cX9_ahead 6 (some .int)) := rfl
theorem e_L20_967 : lk t_L20 967 = some (.aload_n 2, 968, 2, [], .returned) := rfl
theorem e_L20_968 : lk t_L20 968 = some (.aload_n 0, 969, 0, [], .returned) := rfl
theorem e_L20_969 : lk t_L20 969 = some (.iload 4, 971, 4, [], .returned) := rfl
theorem e_L20_971 : lk t_L20 971 = some (.iconst 1, 972, 0, [], .constant "" 0 (1)) := rfl
theorem e_L20_972 : lk t_L20 972 = some (.iadd, 973, 0, [], .returned) := rfl
theorem e_L20_973 : lk t_L20 973 = some (.iaload, 974, 0, [], .returned) := rfl
theorem e_L20_974 : lk t_L20 974 = some (.aload_n 0, 975, 0, [], .returned) := rfl
theorem e_L20_975 : lk t_L20 975 = some (.iload 4, 977, 4, [], .returned) := rfl
theorem e_L20_977 : lk t_L20 977 = some (.iconst 2, 978, 0, [], .constant "" 0 (2)) := rfl
theorem e_L20_978 : lk t_L20 978 = some (.iadd, 979, 0, [], .returned) := rfl
theorem e_L20_979 : lk t_L20 979 = some (.iaload, 980, 0, [], .returned) := rfl
theorem e_L20_980 : lk t_L20 980 = some (.aload_n 0, 981, 0, [], .returned) := rfl
theorem e_L20_981 : lk t_L20 981 = some (.iload 4, 983, 4, [], .returned) := rfl
theorem e_L20_983 : lk t_L20 983 = some (.iconst 3, 984, 0, [], .constant "" 0 (3)) := rfl
theorem e_L20_984 : lk t_L20 984 = some (.iadd, 985, 0, [], .returned) := rfl
theorem e_L20_985 : lk t_L20 985 = some (.iaload, 986, 0, [], .returned) := rfl
theorem e_L20_986 : lk t_L20 986 = some (.aload_n 0, 987, 0, [], .returned) := rfl
theorem e_L20_987 : lk t_L20 987 = some (.iload 4, 989, 4, [], .returned) := rfl
theorem e_L20_989 : lk t_L20 989 = some (.iconst 4, 990, 0, [], .constant "" 0 (4)) := rfl
theorem e_L20_990 : lk t_L20 990 = some (.iadd, 991, 0, [], .returned) := rfl
theorem e_L20_991 : lk t_L20 991 = some (.iaload, 992, 0, [], .returned) := rfl
theorem e_L20_992 : lk t_L20 992 = some (.invokevirtual 103, 995, 0, [4, 10, 0, 0], .code yX10_ahead cX10_ahead 6 (some .int)) := rfl
theorem e_L20_995 : lk t_L20 995 = some (.if_icmp .eq 449, 998, 1444, [], .returned) := rfl
theorem e_L20_998 : lk t_L20 998 = some (.iconst 0, 999, 0, [], .constant "" 0 (0)) := rfl
def t_L21 : Tab := [(1000, [], (.aload_n 1, 1001, 1, [], .returned)),
  (1001, [], (.aload_n 0, 1002, 0, [], .returned)),
  (1002, [], (.iload 4, 1004, 4, [], .returned)),
  (1004, [], (.iconst 1, 1005, 0, [], .constant "" 0 (1))),
  (1005, [], (.iadd, 1006, 0, [], .returned)),
  (1006, [], (.iaload, 1007, 0, [], .returned)),
  (1007, [896, 899, 897, 898, 92], (.invokevirtual 104, 1010, 0, [1, 9, 0, 0], .code yX9_steady cX9_steady 3 (some .int))),
  (1010, [], (.aload_n 2, 1011, 2, [], .returned)),
  (1011, [], (.aload_n 0, 1012, 0, [], .returned)),
  (1012, [], (.iload 4, 1014, 4, [], .returned)),
  (1014, [], (.iconst 1, 1015, 0, [], .constant "" 0 (1))),
  (1015, [], (.iadd, 1016, 0, [], .returned)),
  (1016, [], (.iaload, 1017, 0, [], .returned)),
  (1017, [1529, 1532, 1530, 1531, 102], (.invokevirtual 107, 1020, 0, [1, 10, 0, 0], .code yX10_steady cX10_steady 3 (some .int))),
  (1020, [], (.if_icmp .eq 424, 1023, 1444, [], .returned)),
  (1023, [], (.iconst 0, 1024, 0, [], .constant "" 0 (0)))]
theorem ck_L21 : okT q_L_law t_L21 = true := by decide +kernel
theorem e_L21_1000 : lk t_L21 1000 = some (.aload_n 1, 1001, 1, [], .returned) := rfl
theorem e_L21_1001 : lk t_L21 1001 = some (.aload_n 0, 1002, 0, [], .returned) := rfl
theorem e_L21_1002 : lk t_L21 1002 = some (.iload 4, 1004, 4, [], .returned) := rfl
theorem e_L21_1004 : lk t_L21 1004 = some (.iconst 1, 1005, 0, [], .constant "" 0 (1)) := rfl
theorem e_L21_1005 : lk t_L21 1005 = some (.iadd, 1006, 0, [], .returned) := rfl
theorem e_L21_1006 : lk t_L21 1006 = some (.iaload, 1007, 0, [], .returned) := rfl
theorem e_L21_1007 : lk t_L21 1007 = some (.invokevirtual 104, 1010, 0, [1, 9, 0, 0], .code yX9_steady cX9_steady 3 (some .int)) := rfl
theorem e_L21_1010 : lk t_L21 1010 = some (.aload_n 2, 1011, 2, [], .returned) := rfl
theorem e_L21_1011 : lk t_L21 1011 = some (.aload_n 0, 1012, 0, [], .returned) := rfl
theorem e_L21_1012 : lk t_L21 1012 = some (.iload 4, 1014, 4, [], .returned) := rfl
theorem e_L21_1014 : lk t_L21 1014 = some (.iconst 1, 1015, 0, [], .constant "" 0 (1)) := rfl
theorem e_L21_1015 : lk t_L21 1015 = some (.iadd, 1016, 0, [], .returned) := rfl
theorem e_L21_1016 : lk t_L21 1016 = some (.iaload, 1017, 0, [], .returned) := rfl
theorem e_L21_1017 : lk t_L21 1017 = some (.invokevirtual 107, 1020, 0, [1, 10, 0, 0], .code yX10_steady cX10_steady 3 (some .int)) := rfl
theorem e_L21_1020 : lk t_L21 1020 = some (.if_icmp .eq 424, 1023, 1444, [], .returned) := rfl
theorem e_L21_1023 : lk t_L21 1023 = some (.iconst 0, 1024, 0, [], .constant "" 0 (0)) := rfl
def t_L22 : Tab := [(1025, [], (.aload_n 1, 1026, 1, [], .returned)),
  (1026, [], (.aload_n 0, 1027, 0, [], .returned)),
  (1027, [], (.iload 4, 1029, 4, [], .returned)),
  (1029, [], (.iconst 1, 1030, 0, [], .constant "" 0 (1))),
  (1030, [], (.iadd, 1031, 0, [], .returned)),
  (1031, [], (.iaload, 1032, 0, [], .returned)),
  (1032, [905, 908, 906, 907, 92], (.invokevirtual 108, 1035, 0, [1, 9, 0, 0], .code yX9_weeks cX9_weeks 3 (some .int))),
  (1035, [], (.aload_n 2, 1036, 2, [], .returned)),
  (1036, [], (.aload_n 0, 1037, 0, [], .returned)),
  (1037, [], (.iload 4, 1039, 4, [], .returned)),
  (1039, [], (.iconst 1, 1040, 0, [], .constant "" 0 (1))),
  (1040, [], (.iadd, 1041, 0, [], .returned)),
  (1041, [], (.iaload, 1042, 0, [], .returned)),
  (1042, [1537, 1540, 1538, 1539, 102], (.invokevirtual 111, 1045, 0, [1, 10, 0, 0], .code yX10_weeks cX10_weeks 3 (some .int))),
  (1045, [], (.if_icmp .eq 399, 1048, 1444, [], .returned)),
  (1048, [], (.iconst 0, 1049, 0, [], .constant "" 0 (0)))]
theorem ck_L22 : okT q_L_law t_L22 = true := by decide +kernel
theorem e_L22_1025 : lk t_L22 1025 = some (.aload_n 1, 1026, 1, [], .returned) := rfl
theorem e_L22_1026 : lk t_L22 1026 = some (.aload_n 0, 1027, 0, [], .returned) := rfl
theorem e_L22_1027 : lk t_L22 1027 = some (.iload 4, 1029, 4, [], .returned) := rfl
theorem e_L22_1029 : lk t_L22 1029 = some (.iconst 1, 1030, 0, [], .constant "" 0 (1)) := rfl
theorem e_L22_1030 : lk t_L22 1030 = some (.iadd, 1031, 0, [], .returned) := rfl
theorem e_L22_1031 : lk t_L22 1031 = some (.iaload, 1032, 0, [], .returned) := rfl
theorem e_L22_1032 : lk t_L22 1032 = some (.invokevirtual 108, 1035, 0, [1, 9, 0, 0], .code yX9_weeks cX9_weeks 3 (some .int)) := rfl
theorem e_L22_1035 : lk t_L22 1035 = some (.aload_n 2, 1036, 2, [], .returned) := rfl
theorem e_L22_1036 : lk t_L22 1036 = some (.aload_n 0, 1037, 0, [], .returned) := rfl
theorem e_L22_1037 : lk t_L22 1037 = some (.iload 4, 1039, 4, [], .returned) := rfl
theorem e_L22_1039 : lk t_L22 1039 = some (.iconst 1, 1040, 0, [], .constant "" 0 (1)) := rfl
theorem e_L22_1040 : lk t_L22 1040 = some (.iadd, 1041, 0, [], .returned) := rfl
theorem e_L22_1041 : lk t_L22 1041 = some (.iaload, 1042, 0, [], .returned) := rfl
theorem e_L22_1042 : lk t_L22 1042 = some (.invokevirtual 111, 1045, 0, [1, 10, 0, 0], .code yX10_weeks cX10_weeks 3 (some .int)) := rfl
theorem e_L22_1045 : lk t_L22 1045 = some (.if_icmp .eq 399, 1048, 1444, [], .returned) := rfl
theorem e_L22_1048 : lk t_L22 1048 = some (.iconst 0, 1049, 0, [], .constant "" 0 (0)) := rfl
def t_L23 : Tab := [(1050, [], (.aload_n 1, 1051, 1, [], .returned)),
  (1051, [], (.aload_n 0, 1052, 0, [], .returned)),
  (1052, [], (.iload 4, 1054, 4, [], .returned)),
  (1054, [], (.iconst 1, 1055, 0, [], .constant "" 0 (1))),
  (1055, [], (.iadd, 1056, 0, [], .returned)),
  (1056, [], (.iaload, 1057, 0, [], .returned)),
  (1057, [], (.aload_n 0, 1058, 0, [], .returned)),
  (1058, [], (.iload 4, 1060, 4, [], .returned)),
  (1060, [], (.iconst 2, 1061, 0, [], .constant "" 0 (2))),
  (1061, [], (.iadd, 1062, 0, [], .returned)),
  (1062, [], (.iaload, 1063, 0, [], .returned)),
  (1063, [914, 917, 915, 916, 92], (.invokevirtual 112, 1066, 0, [2, 9, 0, 0], .code yX9_pay cX9_pay 3 (some .int))),
  (1066, [], (.aload_n 2, 1067, 2, [], .returned)),
  (1067, [], (.aload_n 0, 1068, 0, [], .returned)),
  (1068, [], (.iload 4, 1070, 4, [], .returned)),
  (1070, [], (.iconst 1, 1071, 0, [], .constant "" 0 (1))),
  (1071, [], (.iadd, 1072, 0, [], .returned)),
  (1072, [], (.iaload, 1073, 0, [], .returned)),
  (1073, [], (.aload_n 0, 1074, 0, [], .returned)),
  (1074, [], (.iload 4, 1076, 4, [], .returned)),
  (1076, [], (.iconst 2, 1077, 0, [], .constant "" 0 (2))),
  (1077, [], (.iadd, 1078, 0, [], .returned)),
  (1078, [], (.iaload, 1079, 0, [], .returned)),
  (1079, [1541, 1544, 1542, 1543, 102], (.invokevirtual 115, 1082, 0, [2, 10, 0, 0], .code yX10_pay cX10_pay 4 (some .int))),
  (1082, [], (.if_icmp .eq 362, 1085, 1444, [], .returned)),
  (1085, [], (.iconst 0, 1086, 0, [], .constant "" 0 (0)))]
theorem ck_L23 : okT q_L_law t_L23 = true := by decide +kernel
theorem e_L23_1050 : lk t_L23 1050 = some (.aload_n 1, 1051, 1, [], .returned) := rfl
theorem e_L23_1051 : lk t_L23 1051 = some (.aload_n 0, 1052, 0, [], .returned) := rfl
theorem e_L23_1052 : lk t_L23 1052 = some (.iload 4, 1054, 4, [], .returned) := rfl
theorem e_L23_1054 : lk t_L23 1054 = some (.iconst 1, 1055, 0, [], .constant "" 0 (1)) := rfl
theorem e_L23_1055 : lk t_L23 1055 = some (.iadd, 1056, 0, [], .returned) := rfl
theorem e_L23_1056 : lk t_L23 1056 = some (.iaload, 1057, 0, [], .returned) := rfl
theorem e_L23_1057 : lk t_L23 1057 = some (.aload_n 0, 1058, 0, [], .returned) := rfl
theorem e_L23_1058 : lk t_L23 1058 = some (.iload 4, 1060, 4, [], .returned) := rfl
theorem e_L23_1060 : lk t_L23 1060 = some (.iconst 2, 1061, 0, [], .constant "" 0 (2)) := rfl
theorem e_L23_1061 : lk t_L23 1061 = some (.iadd, 1062, 0, [], .returned) := rfl
theorem e_L23_1062 : lk t_L23 1062 = some (.iaload, 1063, 0, [], .returned) := rfl
theorem e_L23_1063 : lk t_L23 1063 = some (.invokevirtual 112, 1066, 0, [2, 9, 0, 0], .code yX9_pay cX9_pay 3 (some .int)) := rfl
theorem e_L23_1066 : lk t_L23 1066 = some (.aload_n 2, 1067, 2, [], .returned) := rfl
theorem e_L23_1067 : lk t_L23 1067 = some (.aload_n 0, 1068, 0, [], .returned) := rfl
theorem e_L23_1068 : lk t_L23 1068 = some (.iload 4, 1070, 4, [], .returned) := rfl
theorem e_L23_1070 : lk t_L23 1070 = some (.iconst 1, 1071, 0, [], .constant "" 0 (1)) := rfl
theorem e_L23_1071 : lk t_L23 1071 = some (.iadd, 1072, 0, [], .returned) := rfl
theorem e_L23_1072 : lk t_L23 1072 = some (.iaload, 1073, 0, [], .returned) := rfl
theorem e_L23_1073 : lk t_L23 1073 = some (.aload_n 0, 1074, 0, [], .returned) := rfl
theorem e_L23_1074 : lk t_L23 1074 = some (.iload 4, 1076, 4, [], .returned) := rfl
theorem e_L23_1076 : lk t_L23 1076 = some (.iconst 2, 1077, 0, [], .constant "" 0 (2)) := rfl
theorem e_L23_1077 : lk t_L23 1077 = some (.iadd, 1078, 0, [], .returned) := rfl
theorem e_L23_1078 : lk t_L23 1078 = some (.iaload, 1079, 0, [], .returned) := rfl
theorem e_L23_1079 : lk t_L23 1079 = some (.invokevirtual 115, 1082, 0, [2, 10, 0, 0], .code yX10_pay cX10_pay 4 (some .int)) := rfl
theorem e_L23_1082 : lk t_L23 1082 = some (.if_icmp .eq 362, 1085, 1444, [], .returned) := rfl
theorem e_L23_1085 : lk t_L23 1085 = some (.iconst 0, 1086, 0, [], .constant "" 0 (0)) := rfl
def t_L24 : Tab := [(1087, [], (.aload_n 1, 1088, 1, [], .returned)),
  (1088, [], (.aload_n 0, 1089, 0, [], .returned)),
  (1089, [], (.iload 4, 1091, 4, [], .returned)),
  (1091, [], (.iconst 1, 1092, 0, [], .constant "" 0 (1))),
  (1092, [], (.iadd, 1093, 0, [], .returned)),
  (1093, [], (.iaload, 1094, 0, [], .returned)),
  (1094, [], (.aload_n 0, 1095, 0, [], .returned)),
  (1095, [], (.iload 4, 1097, 4, [], .returned)),
  (1097, [], (.iconst 2, 1098, 0, [], .constant "" 0 (2))),
  (1098, [], (.iadd, 1099, 0, [], .returned)),
  (1099, [], (.iaload, 1100, 0, [], .returned)),
  (1100, [], (.ifCond .eq 7, 1103, 1107, [], .returned)),
  (1103, [], (.iconst 1, 1104, 0, [], .constant "" 0 (1))),
  (1104, [], (.goto 4, 1107, 1108, [], .returned)),
  (1107, [], (.iconst 0, 1108, 0, [], .constant "" 0 (0))),
  (1108, [928, 931, 929, 930, 92], (.invokevirtual 116, 1111, 0, [2, 9, 0, 0], .code yX9_stop cX9_stop 4 (some .int))),
  (1111, [], (.aload_n 2, 1112, 2, [], .returned)),
  (1112, [], (.aload_n 0, 1113, 0, [], .returned)),
  (1113, [], (.iload 4, 1115, 4, [], .returned)),
  (1115, [], (.iconst 1, 1116, 0, [], .constant "" 0 (1))),
  (1116, [], (.iadd, 1117, 0, [], .returned)),
  (1117, [], (.iaload, 1118, 0, [], .returned)),
  (1118, [], (.aload_n 0, 1119, 0, [], .returned)),
  (1119, [], (.iload 4, 1121, 4, [], .returned)),
  (1121, [], (.iconst 2, 1122, 0, [], .constant "" 0 (2))),
  (1122, [], (.iadd, 1123, 0, [], .returned)),
  (1123, [], (.iaload, 1124, 0, [], .returned)),
  (1124, [], (.ifCond .eq 7, 1127, 1131, [], .returned)),
  (1127, [], (.iconst 1, 1128, 0, [], .constant "" 0 (1))),
  (1128, [], (.goto 4, 1131, 1132, [], .returned)),
  (1131, [], (.iconst 0, 1132, 0, [], .constant "" 0 (0))),
  (1132, [1549, 1552, 1550, 1551, 102], (.invokevirtual 120, 1135, 0, [2, 10, 0, 0], .code yX10_stop cX10_stop 3 (some .int))),
  (1135, [], (.if_icmp .eq 309, 1138, 1444, [], .returned)),
  (1138, [], (.iconst 0, 1139, 0, [], .constant "" 0 (0)))]
theorem ck_L24 : okT q_L_law t_L24 = true := by decide +kernel
theorem e_L24_1087 : lk t_L24 1087 = some (.aload_n 1, 1088, 1, [], .returned) := rfl
theorem e_L24_1088 : lk t_L24 1088 = some (.aload_n 0, 1089, 0, [], .returned) := rfl
theorem e_L24_1089 : lk t_L24 1089 = some (.iload 4, 1091, 4, [], .returned) := rfl
theorem e_L24_1091 : lk t_L24 1091 = some (.iconst 1, 1092, 0, [], .constant "" 0 (1)) := rfl
theorem e_L24_1092 : lk t_L24 1092 = some (.iadd, 1093, 0, [], .returned) := rfl
theorem e_L24_1093 : lk t_L24 1093 = some (.iaload, 1094, 0, [], .returned) := rfl
theorem e_L24_1094 : lk t_L24 1094 = some (.aload_n 0, 1095, 0, [], .returned) := rfl
theorem e_L24_1095 : lk t_L24 1095 = some (.iload 4, 1097, 4, [], .returned) := rfl
theorem e_L24_1097 : lk t_L24 1097 = some (.iconst 2, 1098, 0, [], .constant "" 0 (2)) := rfl
theorem e_L24_1098 : lk t_L24 1098 = some (.iadd, 1099, 0, [], .returned) := rfl
theorem e_L24_1099 : lk t_L24 1099 = some (.iaload, 1100, 0, [], .returned) := rfl
theorem e_L24_1100 : lk t_L24 1100 = some (.ifCond .eq 7, 1103, 1107, [], .returned) := rfl
theorem e_L24_1103 : lk t_L24 1103 = some (.iconst 1, 1104, 0, [], .constant "" 0 (1)) := rfl
theorem e_L24_1104 : lk t_L24 1104 = some (.goto 4, 1107, 1108, [], .returned) := rfl
theorem e_L24_1107 : lk t_L24 1107 = some (.iconst 0, 1108, 0, [], .constant "" 0 (0)) := rfl
theorem e_L24_1108 : lk t_L24 1108 = some (.invokevirtual 116, 1111, 0, [2, 9, 0, 0], .code yX9_stop cX9_stop 4 (some .int)) := rfl
theorem e_L24_1111 : lk t_L24 1111 = some (.aload_n 2, 1112, 2, [], .returned) := rfl
theorem e_L24_1112 : lk t_L24 1112 = some (.aload_n 0, 1113, 0, [], .returned) := rfl
theorem e_L24_1113 : lk t_L24 1113 = some (.iload 4, 1115, 4, [], .returned) := rfl
theorem e_L24_1115 : lk t_L24 1115 = some (.iconst 1, 1116, 0, [], .constant "" 0 (1)) := rfl
theorem e_L24_1116 : lk t_L24 1116 = some (.iadd, 1117, 0, [], .returned) := rfl
theorem e_L24_1117 : lk t_L24 1117 = some (.iaload, 1118, 0, [], .returned) := rfl
theorem e_L24_1118 : lk t_L24 1118 = some (.aload_n 0, 1119, 0, [], .returned) := rfl
theorem e_L24_1119 : lk t_L24 1119 = some (.iload 4, 1121, 4, [], .returned) := rfl
theorem e_L24_1121 : lk t_L24 1121 = some (.iconst 2, 1122, 0, [], .constant "" 0 (2)) := rfl
theorem e_L24_1122 : lk t_L24 1122 = some (.iadd, 1123, 0, [], .returned) := rfl
theorem e_L24_1123 : lk t_L24 1123 = some (.iaload, 1124, 0, [], .returned) := rfl
theorem e_L24_1124 : lk t_L24 1124 = some (.ifCond .eq 7, 1127, 1131, [], .returned) := rfl
theorem e_L24_1127 : lk t_L24 1127 = some (.iconst 1, 1128, 0, [], .constant "" 0 (1)) := rfl
theorem e_L24_1128 : lk t_L24 1128 = some (.goto 4, 1131, 1132, [], .returned) := rfl
theorem e_L24_1131 : lk t_L24 1131 = some (.iconst 0, 1132, 0, [], .constant "" 0 (0)) := rfl
theorem e_L24_1132 : lk t_L24 1132 = some (.invokevirtual 120, 1135, 0, [2, 10, 0, 0], .code yX10_stop cX10_stop 3 (some .int)) := rfl
theorem e_L24_1135 : lk t_L24 1135 = some (.if_icmp .eq 309, 1138, 1444, [], .returned) := rfl
theorem e_L24_1138 : lk t_L24 1138 = some (.iconst 0, 1139, 0, [], .constant "" 0 (0)) := rfl
def t_L25 : Tab := [(1140, [], (.aload_n 1, 1141, 1, [], .returned)),
  (1141, [], (.aload_n 0, 1142, 0, [], .returned)),
  (1142, [], (.iload 4, 1144, 4, [], .returned)),
  (1144, [], (.iconst 1, 1145, 0, [], .constant "" 0 (1))),
  (1145, [], (.iadd, 1146, 0, [], .returned)),
  (1146, [], (.iaload, 1147, 0, [], .returned)),
  (1147, [], (.aload_n 0, 1148, 0, [], .returned)),
  (1148, [], (.iload 4, 1150, 4, [], .returned)),
  (1150, [], (.iconst 2, 1151, 0, [], .constant "" 0 (2))),
  (1151, [], (.iadd, 1152, 0, [], .returned)),
  (1152, [], (.iaload, 1153, 0, [], .returned)),
  (1153, [932, 935, 933, 934, 92], (.invokevirtual 121, 1156, 0, [2, 9, 0, 0], .code yX9_rank cX9_rank 5 (some .int))),
  (1156, [], (.aload_n 2, 1157, 2, [], .returned)),
  (1157, [], (.aload_n 0, 1158, 0, [], .returned)),
  (1158, [], (.iload 4, 1160, 4, [], .returned)),
  (1160, [], (.iconst 1, 1161, 0, [], .constant "" 0 (1))),
  (1161, [], (.iadd, 1162, 0, [], .returned)),
  (1162, [], (.iaload, 1163, 0, [], .returned)),
  (1163, [], (.aload_n 0, 1164, 0, [], .returned)),
  (1164, [], (.iload 4, 1166, 4, [], .returned)),
  (1166, [], (.iconst 2, 1167, 0, [], .constant "" 0 (2))),
  (1167, [], (.iadd, 1168, 0, [], .returned)),
  (1168, [], (.iaload, 1169, 0, [], .returned)),
  (1169, [1553, 1556, 1554, 1555, 102], (.invokevirtual 124, 1172, 0, [2, 10, 0, 0], .code yX10_rank cX10_rank 4 (some .int))),
  (1172, [], (.if_icmp .eq 272, 1175, 1444, [], .returned)),
  (1175, [], (.iconst 0, 1176, 0, [], .constant "" 0 (0)))]
theorem ck_L25 : okT q_L_law t_L25 = true := by decide +kernel
theorem e_L25_1140 : lk t_L25 1140 = some (.aload_n 1, 1141, 1, [], .returned) := rfl
theorem e_L25_1141 : lk t_L25 1141 = some (.aload_n 0, 1142, 0, [], .returned) := rfl
theorem e_L25_1142 : lk t_L25 1142 = some (.iload 4, 1144, 4, [], .returned) := rfl
theorem e_L25_1144 : lk t_L25 1144 = some (.iconst 1, 1145, 0, [], .constant "" 0 (1)) := rfl
theorem e_L25_1145 : lk t_L25 1145 = some (.iadd, 1146, 0, [], .returned) := rfl
theorem e_L25_1146 : lk t_L25 1146 = some (.iaload, 1147, 0, [], .returned) := rfl
theorem e_L25_1147 : lk t_L25 1147 = some (.aload_n 0, 1148, 0, [], .returned) := rfl
theorem e_L25_1148 : lk t_L25 1148 = some (.iload 4, 1150, 4, [], .returned) := rfl
theorem e_L25_1150 : lk t_L25 1150 = some (.iconst 2, 1151, 0, [], .constant "" 0 (2)) := rfl
theorem e_L25_1151 : lk t_L25 1151 = some (.iadd, 1152, 0, [], .returned) := rfl
theorem e_L25_1152 : lk t_L25 1152 = some (.iaload, 1153, 0, [], .returned) := rfl
theorem e_L25_1153 : lk t_L25 1153 = some (.invokevirtual 121, 1156, 0, [2, 9, 0, 0], .code yX9_rank cX9_rank 5 (some .int)) := rfl
theorem e_L25_1156 : lk t_L25 1156 = some (.aload_n 2, 1157, 2, [], .returned) := rfl
theorem e_L25_1157 : lk t_L25 1157 = some (.aload_n 0, 1158, 0, [], .returned) := rfl
theorem e_L25_1158 : lk t_L25 1158 = some (.iload 4, 1160, 4, [], .returned) := rfl
theorem e_L25_1160 : lk t_L25 1160 = some (.iconst 1, 1161, 0, [], .constant "" 0 (1)) := rfl
theorem e_L25_1161 : lk t_L25 1161 = some (.iadd, 1162, 0, [], .returned) := rfl
theorem e_L25_1162 : lk t_L25 1162 = some (.iaload, 1163, 0, [], .returned) := rfl
theorem e_L25_1163 : lk t_L25 1163 = some (.aload_n 0, 1164, 0, [], .returned) := rfl
theorem e_L25_1164 : lk t_L25 1164 = some (.iload 4, 1166, 4, [], .returned) := rfl
theorem e_L25_1166 : lk t_L25 1166 = some (.iconst 2, 1167, 0, [], .constant "" 0 (2)) := rfl
theorem e_L25_1167 : lk t_L25 1167 = some (.iadd, 1168, 0, [], .returned) := rfl
theorem e_L25_1168 : lk t_L25 1168 = some (.iaload, 1169, 0, [], .returned) := rfl
theorem e_L25_1169 : lk t_L25 1169 = some (.invokevirtual 124, 1172, 0, [2, 10, 0, 0], .code yX10_rank cX10_rank 4 (some .int)) := rfl
theorem e_L25_1172 : lk t_L25 1172 = some (.if_icmp .eq 272, 1175, 1444, [], .returned) := rfl
theorem e_L25_1175 : lk t_L25 1175 = some (.iconst 0, 1176, 0, [], .constant "" 0 (0)) := rfl
def t_L26 : Tab := [(1177, [], (.aload_n 1, 1178, 1, [], .returned)),
  (1178, [], (.aload_n 0, 1179, 0, [], .returned)),
  (1179, [], (.iload 4, 1181, 4, [], .returned)),
  (1181, [], (.iconst 1, 1182, 0, [], .constant "" 0 (1))),
  (1182, [], (.iadd, 1183, 0, [], .returned)),
  (1183, [], (.iaload, 1184, 0, [], .returned)),
  (1184, [], (.aload_n 0, 1185, 0, [], .returned)),
  (1185, [], (.iload 4, 1187, 4, [], .returned)),
  (1187, [], (.iconst 2, 1188, 0, [], .constant "" 0 (2))),
  (1188, [], (.iadd, 1189, 0, [], .returned)),
  (1189, [], (.iaload, 1190, 0, [], .returned)),
  (1190, [936, 939, 937, 938, 92], (.invokevirtual 125, 1193, 0, [2, 9, 0, 0], .code yX9_raise cX9_raise 5 (some .int))),
  (1193, [], (.aload_n 2, 1194, 2, [], .returned)),
  (1194, [], (.aload_n 0, 1195, 0, [], .returned)),
  (1195, [], (.iload 4, 1197, 4, [], .returned)),
  (1197, [], (.iconst 1, 1198, 0, [], .constant "" 0 (1))),
  (1198, [], (.iadd, 1199, 0, [], .returned)),
  (1199, [], (.iaload, 1200, 0, [], .returned)),
  (1200, [], (.aload_n 0, 1201, 0, [], .returned)),
  (1201, [], (.iload 4, 1203, 4, [], .returned)),
  (1203, [], (.iconst 2, 1204, 0, [], .constant "" 0 (2))),
  (1204, [], (.iadd, 1205, 0, [], .returned)),
  (1205, [], (.iaload, 1206, 0, [], .returned)),
  (1206, [1557, 1560, 1558, 1559, 102], (.invokevirtual 128, 1209, 0, [2, 10, 0, 0], .code yX10_raise cX10_raise 4 (some .int))),
  (1209, [], (.if_icmp .eq 235, 1212, 1444, [], .returned)),
  (1212, [], (.iconst 0, 1213, 0, [], .constant "" 0 (0)))]
theorem ck_L26 : okT q_L_law t_L26 = true := by decide +kernel
theorem e_L26_1177 : lk t_L26 1177 = some (.aload_n 1, 1178, 1, [], .returned) := rfl
theorem e_L26_1178 : lk t_L26 1178 = some (.aload_n 0, 1179, 0, [], .returned) := rfl
theorem e_L26_1179 : lk t_L26 1179 = some (.iload 4, 1181, 4, [], .returned) := rfl
theorem e_L26_1181 : lk t_L26 1181 = some (.iconst 1, 1182, 0, [], .constant "" 0 (1)) := rfl
theorem e_L26_1182 : lk t_L26 1182 = some (.iadd, 1183, 0, [], .returned) := rfl
theorem e_L26_1183 : lk t_L26 1183 = some (.iaload, 1184, 0, [], .returned) := rfl
theorem e_L26_1184 : lk t_L26 1184 = some (.aload_n 0, 1185, 0, [], .returned) := rfl
theorem e_L26_1185 : lk t_L26 1185 = some (.iload 4, 1187, 4, [], .returned) := rfl
theorem e_L26_1187 : lk t_L26 1187 = some (.iconst 2, 1188, 0, [], .constant "" 0 (2)) := rfl
theorem e_L26_1188 : lk t_L26 1188 = some (.iadd, 1189, 0, [], .returned) := rfl
theorem e_L26_1189 : lk t_L26 1189 = some (.iaload, 1190, 0, [], .returned) := rfl
theorem e_L26_1190 : lk t_L26 1190 = some (.invokevirtual 125, 1193, 0, [2, 9, 0, 0], .code yX9_raise cX9_raise 5 (some .int)) := rfl
theorem e_L26_1193 : lk t_L26 1193 = some (.aload_n 2, 1194, 2, [], .returned) := rfl
theorem e_L26_1194 : lk t_L26 1194 = some (.aload_n 0, 1195, 0, [], .returned) := rfl
theorem e_L26_1195 : lk t_L26 1195 = some (.iload 4, 1197, 4, [], .returned) := rfl
theorem e_L26_1197 : lk t_L26 1197 = some (.iconst 1, 1198, 0, [], .constant "" 0 (1)) := rfl
theorem e_L26_1198 : lk t_L26 1198 = some (.iadd, 1199, 0, [], .returned) := rfl
theorem e_L26_1199 : lk t_L26 1199 = some (.iaload, 1200, 0, [], .returned) := rfl
theorem e_L26_1200 : lk t_L26 1200 = some (.aload_n 0, 1201, 0, [], .returned) := rfl
theorem e_L26_1201 : lk t_L26 1201 = some (.iload 4, 1203, 4, [], .returned) := rfl
theorem e_L26_1203 : lk t_L26 1203 = some (.iconst 2, 1204, 0, [], .constant "" 0 (2)) := rfl
theorem e_L26_1204 : lk t_L26 1204 = some (.iadd, 1205, 0, [], .returned) := rfl
theorem e_L26_1205 : lk t_L26 1205 = some (.iaload, 1206, 0, [], .returned) := rfl
theorem e_L26_1206 : lk t_L26 1206 = some (.invokevirtual 128, 1209, 0, [2, 10, 0, 0], .code yX10_raise cX10_raise 4 (some .int)) := rfl
theorem e_L26_1209 : lk t_L26 1209 = some (.if_icmp .eq 235, 1212, 1444, [], .returned) := rfl
theorem e_L26_1212 : lk t_L26 1212 = some (.iconst 0, 1213, 0, [], .constant "" 0 (0)) := rfl
def t_L27 : Tab := [(1214, [], (.aload_n 1, 1215, 1, [], .returned)),
  (1215, [], (.aload_n 0, 1216, 0, [], .returned)),
  (1216, [], (.iload 4, 1218, 4, [], .returned)),
  (1218, [], (.iconst 1, 1219, 0, [], .constant "" 0 (1))),
  (1219, [], (.iadd, 1220, 0, [], .returned)),
  (1220, [], (.iaload, 1221, 0, [], .returned)),
  (1221, [], (.aload_n 0, 1222, 0, [], .returned)),
  (1222, [], (.iload 4, 1224, 4, [], .returned)),
  (1224, [], (.iconst 2, 1225, 0, [], .constant "" 0 (2))),
  (1225, [], (.iadd, 1226, 0, [], .returned)),
  (1226, [], (.iaload, 1227, 0, [], .returned)),
  (1227, [940, 943, 941, 942, 92], (.invokevirtual 129, 1230, 0, [2, 9, 0, 0], .code yX9_total cX9_total 5 (some .int))),
  (1230, [], (.aload_n 2, 1231, 2, [], .returned)),
  (1231, [], (.aload_n 0, 1232, 0, [], .returned)),
  (1232, [], (.iload 4, 1234, 4, [], .returned)),
  (1234, [], (.iconst 1, 1235, 0, [], .constant "" 0 (1))),
  (1235, [], (.iadd, 1236, 0, [], .returned)),
  (1236, [], (.iaload, 1237, 0, [], .returned)),
  (1237, [], (.aload_n 0, 1238, 0, [], .returned)),
  (1238, [], (.iload 4, 1240, 4, [], .returned)),
  (1240, [], (.iconst 2, 1241, 0, [], .constant "" 0 (2))),
  (1241, [], (.iadd, 1242, 0, [], .returned)),
  (1242, [], (.iaload, 1243, 0, [], .returned)),
  (1243, [1561, 1564, 1562, 1563, 102], (.invokevirtual 132, 1246, 0, [2, 10, 0, 0], .code yX10_total cX10_total 4 (some .int))),
  (1246, [], (.if_icmp .eq 198, 1249, 1444, [], .returned)),
  (1249, [], (.iconst 0, 1250, 0, [], .constant "" 0 (0)))]
theorem ck_L27 : okT q_L_law t_L27 = true := by decide +kernel
theorem e_L27_1214 : lk t_L27 1214 = some (.aload_n 1, 1215, 1, [], .returned) := rfl
theorem e_L27_1215 : lk t_L27 1215 = some (.aload_n 0, 1216, 0, [], .returned) := rfl
theorem e_L27_1216 : lk t_L27 1216 = some (.iload 4, 1218, 4, [], .returned) := rfl
theorem e_L27_1218 : lk t_L27 1218 = some (.iconst 1, 1219, 0, [], .constant "" 0 (1)) := rfl
theorem e_L27_1219 : lk t_L27 1219 = some (.iadd, 1220, 0, [], .returned) := rfl
theorem e_L27_1220 : lk t_L27 1220 = some (.iaload, 1221, 0, [], .returned) := rfl
theorem e_L27_1221 : lk t_L27 1221 = some (.aload_n 0, 1222, 0, [], .returned) := rfl
theorem e_L27_1222 : lk t_L27 1222 = some (.iload 4, 1224, 4, [], .returned) := rfl
theorem e_L27_1224 : lk t_L27 1224 = some (.iconst 2, 1225, 0, [], .constant "" 0 (2)) := rfl
theorem e_L27_1225 : lk t_L27 1225 = some (.iadd, 1226, 0, [], .returned) := rfl
theorem e_L27_1226 : lk t_L27 1226 = some (.iaload, 1227, 0, [], .returned) := rfl
theorem e_L27_1227 : lk t_L27 1227 = some (.invokevirtual 129, 1230, 0, [2, 9, 0, 0], .code yX9_total cX9_total 5 (some .int)) := rfl
theorem e_L27_1230 : lk t_L27 1230 = some (.aload_n 2, 1231, 2, [], .returned) := rfl
theorem e_L27_1231 : lk t_L27 1231 = some (.aload_n 0, 1232, 0, [], .returned) := rfl
theorem e_L27_1232 : lk t_L27 1232 = some (.iload 4, 1234, 4, [], .returned) := rfl
theorem e_L27_1234 : lk t_L27 1234 = some (.iconst 1, 1235, 0, [], .constant "" 0 (1)) := rfl
theorem e_L27_1235 : lk t_L27 1235 = some (.iadd, 1236, 0, [], .returned) := rfl
theorem e_L27_1236 : lk t_L27 1236 = some (.iaload, 1237, 0, [], .returned) := rfl
theorem e_L27_1237 : lk t_L27 1237 = some (.aload_n 0, 1238, 0, [], .returned) := rfl
theorem e_L27_1238 : lk t_L27 1238 = some (.iload 4, 1240, 4, [], .returned) := rfl
theorem e_L27_1240 : lk t_L27 1240 = some (.iconst 2, 1241, 0, [], .constant "" 0 (2)) := rfl
theorem e_L27_1241 : lk t_L27 1241 = some (.iadd, 1242, 0, [], .returned) := rfl
theorem e_L27_1242 : lk t_L27 1242 = some (.iaload, 1243, 0, [], .returned) := rfl
theorem e_L27_1243 : lk t_L27 1243 = some (.invokevirtual 132, 1246, 0, [2, 10, 0, 0], .code yX10_total cX10_total 4 (some .int)) := rfl
theorem e_L27_1246 : lk t_L27 1246 = some (.if_icmp .eq 198, 1249, 1444, [], .returned) := rfl
theorem e_L27_1249 : lk t_L27 1249 = some (.iconst 0, 1250, 0, [], .constant "" 0 (0)) := rfl
def t_L28 : Tab := [(1251, [], (.aload_n 1, 1252, 1, [], .returned)),
  (1252, [], (.aload_n 0, 1253, 0, [], .returned)),
  (1253, [], (.iload 4, 1255, 4, [], .returned)),
  (1255, [], (.iconst 1, 1256, 0, [], .constant "" 0 (1))),
  (1256, [], (.iadd, 1257, 0, [], .returned)),
  (1257, [], (.iaload, 1258, 0, [], .returned)),
  (1258, [], (.aload_n 0, 1259, 0, [], .returned)),
  (1259, [], (.iload 4, 1261, 4, [], .returned)),
  (1261, [], (.iconst 2, 1262, 0, [], .constant "" 0 (2))),
  (1262, [], (.iadd, 1263, 0, [], .returned)),
  (1263, [], (.iaload, 1264, 0, [], .returned)),
  (1264, [946, 949, 947, 948, 92], (.invokevirtual 133, 1267, 0, [2, 9, 0, 0], .code yX9_at cX9_at 5 (some .int))),
  (1267, [], (.aload_n 2, 1268, 2, [], .returned)),
  (1268, [], (.aload_n 0, 1269, 0, [], .returned)),
  (1269, [], (.iload 4, 1271, 4, [], .returned)),
  (1271, [], (.iconst 1, 1272, 0, [], .constant "" 0 (1))),
  (1272, [], (.iadd, 1273, 0, [], .returned)),
  (1273, [], (.iaload, 1274, 0, [], .returned)),
  (1274, [], (.aload_n 0, 1275, 0, [], .returned)),
  (1275, [], (.iload 4, 1277, 4, [], .returned)),
  (1277, [], (.iconst 2, 1278, 0, [], .constant "" 0 (2))),
  (1278, [], (.iadd, 1279, 0, [], .returned)),
  (1279, [], (.iaload, 1280, 0, [], .returned)),
  (1280, [1565, 1568, 1566, 1567, 102], (.invokevirtual 136, 1283, 0, [2, 10, 0, 0], .code yX10_at cX10_at 4 (some .int))),
  (1283, [], (.if_icmp .eq 161, 1286, 1444, [], .returned)),
  (1286, [], (.iconst 0, 1287, 0, [], .constant "" 0 (0)))]
theorem ck_L28 : okT q_L_law t_L28 = true := by decide +kernel
theorem e_L28_1251 : lk t_L28 1251 = some (.aload_n 1, 1252, 1, [], .returned) := rfl
theorem e_L28_1252 : lk t_L28 1252 = some (.aload_n 0, 1253, 0, [], .returned) := rfl
theorem e_L28_1253 : lk t_L28 1253 = some (.iload 4, 1255, 4, [], .returned) := rfl
theorem e_L28_1255 : lk t_L28 1255 = some (.iconst 1, 1256, 0, [], .constant "" 0 (1)) := rfl
theorem e_L28_1256 : lk t_L28 1256 = some (.iadd, 1257, 0, [], .returned) := rfl
theorem e_L28_1257 : lk t_L28 1257 = some (.iaload, 1258, 0, [], .returned) := rfl
theorem e_L28_1258 : lk t_L28 1258 = some (.aload_n 0, 1259, 0, [], .returned) := rfl
theorem e_L28_1259 : lk t_L28 1259 = some (.iload 4, 1261, 4, [], .returned) := rfl
theorem e_L28_1261 : lk t_L28 1261 = some (.iconst 2, 1262, 0, [], .constant "" 0 (2)) := rfl
theorem e_L28_1262 : lk t_L28 1262 = some (.iadd, 1263, 0, [], .returned) := rfl
theorem e_L28_1263 : lk t_L28 1263 = some (.iaload, 1264, 0, [], .returned) := rfl
theorem e_L28_1264 : lk t_L28 1264 = some (.invokevirtual 133, 1267, 0, [2, 9, 0, 0], .code yX9_at cX9_at 5 (some .int)) := rfl
theorem e_L28_1267 : lk t_L28 1267 = some (.aload_n 2, 1268, 2, [], .returned) := rfl
theorem e_L28_1268 : lk t_L28 1268 = some (.aload_n 0, 1269, 0, [], .returned) := rfl
theorem e_L28_1269 : lk t_L28 1269 = some (.iload 4, 1271, 4, [], .returned) := rfl
theorem e_L28_1271 : lk t_L28 1271 = some (.iconst 1, 1272, 0, [], .constant "" 0 (1)) := rfl
theorem e_L28_1272 : lk t_L28 1272 = some (.iadd, 1273, 0, [], .returned) := rfl
theorem e_L28_1273 : lk t_L28 1273 = some (.iaload, 1274, 0, [], .returned) := rfl
theorem e_L28_1274 : lk t_L28 1274 = some (.aload_n 0, 1275, 0, [], .returned) := rfl
theorem e_L28_1275 : lk t_L28 1275 = some (.iload 4, 1277, 4, [], .returned) := rfl
theorem e_L28_1277 : lk t_L28 1277 = some (.iconst 2, 1278, 0, [], .constant "" 0 (2)) := rfl
theorem e_L28_1278 : lk t_L28 1278 = some (.iadd, 1279, 0, [], .returned) := rfl
theorem e_L28_1279 : lk t_L28 1279 = some (.iaload, 1280, 0, [], .returned) := rfl
theorem e_L28_1280 : lk t_L28 1280 = some (.invokevirtual 136, 1283, 0, [2, 10, 0, 0], .code yX10_at cX10_at 4 (some .int)) := rfl
theorem e_L28_1283 : lk t_L28 1283 = some (.if_icmp .eq 161, 1286, 1444, [], .returned) := rfl
theorem e_L28_1286 : lk t_L28 1286 = some (.iconst 0, 1287, 0, [], .constant "" 0 (0)) := rfl
def t_L29 : Tab := [(1288, [], (.aload_n 1, 1289, 1, [], .returned)),
  (1289, [], (.aload_n 0, 1290, 0, [], .returned)),
  (1290, [], (.iload 4, 1292, 4, [], .returned)),
  (1292, [], (.iconst 1, 1293, 0, [], .constant "" 0 (1))),
  (1293, [], (.iadd, 1294, 0, [], .returned)),
  (1294, [], (.iaload, 1295, 0, [], .returned)),
  (1295, [], (.aload_n 0, 1296, 0, [], .returned)),
  (1296, [], (.iload 4, 1298, 4, [], .returned)),
  (1298, [], (.iconst 2, 1299, 0, [], .constant "" 0 (2))),
  (1299, [], (.iadd, 1300, 0, [], .returned)),
  (1300, [], (.iaload, 1301, 0, [], .returned)),
  (1301, [950, 953, 951, 952, 92], (.invokevirtual 137, 1304, 0, [2, 9, 0, 0], .code yX9_back cX9_back 4 (some .int))),
  (1304, [], (.aload_n 2, 1305, 2, [], .returned)),
  (1305, [], (.aload_n 0, 1306, 0, [], .returned)),
  (1306, [], (.iload 4, 1308, 4, [], .returned)),
  (1308, [], (.iconst 1, 1309, 0, [], .constant "" 0 (1))),
  (1309, [], (.iadd, 1310, 0, [], .returned)),
  (1310, [], (.iaload, 1311, 0, [], .returned)),
  (1311, [], (.aload_n 0, 1312, 0, [], .returned)),
  (1312, [], (.iload 4, 1314, 4, [], .returned)),
  (1314, [], (.iconst 2, 1315, 0, [], .constant "" 0 (2))),
  (1315, [], (.iadd, 1316, 0, [], .returned)),
  (1316, [], (.iaload, 1317, 0, [], .returned)),
  (1317, [1569, 1572, 1570, 1571, 102], (.invokevirtual 140, 1320, 0, [2, 10, 0, 0], .code yX10_back cX10_back 3 (some .int))),
  (1320, [], (.if_icmp .eq 124, 1323, 1444, [], .returned)),
  (1323, [], (.iconst 0, 1324, 0, [], .constant "" 0 (0)))]
theorem ck_L29 : okT q_L_law t_L29 = true := by decide +kernel
theorem e_L29_1288 : lk t_L29 1288 = some (.aload_n 1, 1289, 1, [], .returned) := rfl
theorem e_L29_1289 : lk t_L29 1289 = some (.aload_n 0, 1290, 0, [], .returned) := rfl
theorem e_L29_1290 : lk t_L29 1290 = some (.iload 4, 1292, 4, [], .returned) := rfl
theorem e_L29_1292 : lk t_L29 1292 = some (.iconst 1, 1293, 0, [], .constant "" 0 (1)) := rfl
theorem e_L29_1293 : lk t_L29 1293 = some (.iadd, 1294, 0, [], .returned) := rfl
theorem e_L29_1294 : lk t_L29 1294 = some (.iaload, 1295, 0, [], .returned) := rfl
theorem e_L29_1295 : lk t_L29 1295 = some (.aload_n 0, 1296, 0, [], .returned) := rfl
theorem e_L29_1296 : lk t_L29 1296 = some (.iload 4, 1298, 4, [], .returned) := rfl
theorem e_L29_1298 : lk t_L29 1298 = some (.iconst 2, 1299, 0, [], .constant "" 0 (2)) := rfl
theorem e_L29_1299 : lk t_L29 1299 = some (.iadd, 1300, 0, [], .returned) := rfl
theorem e_L29_1300 : lk t_L29 1300 = some (.iaload, 1301, 0, [], .returned) := rfl
theorem e_L29_1301 : lk t_L29 1301 = some (.invokevirtual 137, 1304, 0, [2, 9, 0, 0], .code yX9_back cX9_back 4 (some .int)) := rfl
theorem e_L29_1304 : lk t_L29 1304 = some (.aload_n 2, 1305, 2, [], .returned) := rfl
theorem e_L29_1305 : lk t_L29 1305 = some (.aload_n 0, 1306, 0, [], .returned) := rfl
theorem e_L29_1306 : lk t_L29 1306 = some (.iload 4, 1308, 4, [], .returned) := rfl
theorem e_L29_1308 : lk t_L29 1308 = some (.iconst 1, 1309, 0, [], .constant "" 0 (1)) := rfl
theorem e_L29_1309 : lk t_L29 1309 = some (.iadd, 1310, 0, [], .returned) := rfl
theorem e_L29_1310 : lk t_L29 1310 = some (.iaload, 1311, 0, [], .returned) := rfl
theorem e_L29_1311 : lk t_L29 1311 = some (.aload_n 0, 1312, 0, [], .returned) := rfl
theorem e_L29_1312 : lk t_L29 1312 = some (.iload 4, 1314, 4, [], .returned) := rfl
theorem e_L29_1314 : lk t_L29 1314 = some (.iconst 2, 1315, 0, [], .constant "" 0 (2)) := rfl
theorem e_L29_1315 : lk t_L29 1315 = some (.iadd, 1316, 0, [], .returned) := rfl
theorem e_L29_1316 : lk t_L29 1316 = some (.iaload, 1317, 0, [], .returned) := rfl
theorem e_L29_1317 : lk t_L29 1317 = some (.invokevirtual 140, 1320, 0, [2, 10, 0, 0], .code yX10_back cX10_back 3 (some .int)) := rfl
theorem e_L29_1320 : lk t_L29 1320 = some (.if_icmp .eq 124, 1323, 1444, [], .returned) := rfl
theorem e_L29_1323 : lk t_L29 1323 = some (.iconst 0, 1324, 0, [], .constant "" 0 (0)) := rfl
def t_L30 : Tab := [(1325, [], (.aload_n 1, 1326, 1, [], .returned)),
  (1326, [], (.aload_n 0, 1327, 0, [], .returned)),
  (1327, [], (.iload 4, 1329, 4, [], .returned)),
  (1329, [], (.iconst 1, 1330, 0, [], .constant "" 0 (1))),
  (1330, [], (.iadd, 1331, 0, [], .returned)),
  (1331, [], (.iaload, 1332, 0, [], .returned)),
  (1332, [954, 957, 955, 956, 92], (.invokevirtual 141, 1335, 0, [1, 9, 0, 0], .code yX9_forgive cX9_forgive 4 (some .int))),
  (1335, [], (.aload_n 2, 1336, 2, [], .returned)),
  (1336, [], (.aload_n 0, 1337, 0, [], .returned)),
  (1337, [], (.iload 4, 1339, 4, [], .returned)),
  (1339, [], (.iconst 1, 1340, 0, [], .constant "" 0 (1))),
  (1340, [], (.iadd, 1341, 0, [], .returned)),
  (1341, [], (.iaload, 1342, 0, [], .returned)),
  (1342, [1573, 1576, 1574, 1575, 102], (.invokevirtual 144, 1345, 0, [1, 10, 0, 0], .code yX10_forgive cX10_forgive 3 (some .int))),
  (1345, [], (.if_icmp .eq 99, 1348, 1444, [], .returned)),
  (1348, [], (.iconst 0, 1349, 0, [], .constant "" 0 (0)))]
theorem ck_L30 : okT q_L_law t_L30 = true := by decide +kernel
theorem e_L30_1325 : lk t_L30 1325 = some (.aload_n 1, 1326, 1, [], .returned) := rfl
theorem e_L30_1326 : lk t_L30 1326 = some (.aload_n 0, 1327, 0, [], .returned) := rfl
theorem e_L30_1327 : lk t_L30 1327 = some (.iload 4, 1329, 4, [], .returned) := rfl
theorem e_L30_1329 : lk t_L30 1329 = some (.iconst 1, 1330, 0, [], .constant "" 0 (1)) := rfl
theorem e_L30_1330 : lk t_L30 1330 = some (.iadd, 1331, 0, [], .returned) := rfl
theorem e_L30_1331 : lk t_L30 1331 = some (.iaload, 1332, 0, [], .returned) := rfl
theorem e_L30_1332 : lk t_L30 1332 = some (.invokevirtual 141, 1335, 0, [1, 9, 0, 0], .code yX9_forgive cX9_forgive 4 (some .int)) := rfl
theorem e_L30_1335 : lk t_L30 1335 = some (.aload_n 2, 1336, 2, [], .returned) := rfl
theorem e_L30_1336 : lk t_L30 1336 = some (.aload_n 0, 1337, 0, [], .returned) := rfl
theorem e_L30_1337 : lk t_L30 1337 = some (.iload 4, 1339, 4, [], .returned) := rfl
theorem e_L30_1339 : lk t_L30 1339 = some (.iconst 1, 1340, 0, [], .constant "" 0 (1)) := rfl
theorem e_L30_1340 : lk t_L30 1340 = some (.iadd, 1341, 0, [], .returned) := rfl
theorem e_L30_1341 : lk t_L30 1341 = some (.iaload, 1342, 0, [], .returned) := rfl
theorem e_L30_1342 : lk t_L30 1342 = some (.invokevirtual 144, 1345, 0, [1, 10, 0, 0], .code yX10_forgive cX10_forgive 3 (some .int)) := rfl
theorem e_L30_1345 : lk t_L30 1345 = some (.if_icmp .eq 99, 1348, 1444, [], .returned) := rfl
theorem e_L30_1348 : lk t_L30 1348 = some (.iconst 0, 1349, 0, [], .constant "" 0 (0)) := rfl
def t_L31 : Tab := [(1350, [], (.aload_n 1, 1351, 1, [], .returned)),
  (1351, [], (.aload_n 0, 1352, 0, [], .returned)),
  (1352, [], (.iload 4, 1354, 4, [], .returned)),
  (1354, [], (.iconst 1, 1355, 0, [], .constant "" 0 (1))),
  (1355, [], (.iadd, 1356, 0, [], .returned)),
  (1356, [], (.iaload, 1357, 0, [], .returned)),
  (1357, [], (.aload_n 0, 1358, 0, [], .returned)),
  (1358, [], (.iload 4, 1360, 4, [], .returned)),
  (1360, [], (.iconst 2, 1361, 0, [], .constant "" 0 (2))),
  (1361, [], (.iadd, 1362, 0, [], .returned)),
  (1362, [], (.iaload, 1363, 0, [], .returned)),
  (1363, [], (.aload_n 3, 1364, 3, [], .returned)),
  (1367, [], (.istore 5, 1369, 5, [], .returned)),
  (1369, [], (.aload_n 2, 1370, 2, [], .returned)),
  (1370, [], (.aload_n 0, 1371, 0, [], .returned)),
  (1371, [], (.iload 4, 1373, 4, [], .returned)),
  (1373, [], (.iconst 1, 1374, 0, [], .constant "" 0 (1))),
  (1374, [], (.iadd, 1375, 0, [], .returned)),
  (1375, [], (.iaload, 1376, 0, [], .returned)),
  (1376, [], (.aload_n 0, 1377, 0, [], .returned)),
  (1377, [], (.iload 4, 1379, 4, [], .returned)),
  (1379, [], (.iconst 2, 1380, 0, [], .constant "" 0 (2))),
  (1380, [], (.iadd, 1381, 0, [], .returned)),
  (1381, [], (.iaload, 1382, 0, [], .returned)),
  (1382, [1577, 1580, 1578, 1579, 102], (.invokevirtual 150, 1385, 0, [2, 10, 0, 0], .code yX10_turn cX10_turn 6 (some .int))),
  (1385, [], (.istore 6, 1387, 6, [], .returned)),
  (1387, [], (.aload_n 2, 1388, 2, [], .returned)),
  (1388, [1146, 1149, 1147, 1148, 102], (.invokevirtual 151, 1391, 0, [0, 10, 0, 0], .code yX10_thrown cX10_thrown 1 (some .int))),
  (1391, [], (.iload 5, 1393, 5, [], .returned)),
  (1393, [], (.if_icmp .eq 5, 1396, 1398, [], .returned)),
  (1396, [], (.iconst 0, 1397, 0, [], .constant "" 0 (0))),
  (1398, [], (.iload 5, 1400, 5, [], .returned)),
  (1400, [], (.ifCond .ne 15, 1403, 1415, [], .returned)),
  (1403, [], (.aload_n 3, 1404, 3, [], .returned)),
  (1404, [], (.iconst 0, 1405, 0, [], .constant "" 0 (0))),
  (1405, [], (.laload, 1406, 0, [], .returned)),
  (1406, [], (.iload 6, 1408, 6, [], .returned)),
  (1408, [], (.i2l, 1409, 0, [], .returned)),
  (1409, [], (.lcmp, 1410, 0, [], .returned)),
  (1410, [], (.ifCond .eq 5, 1413, 1415, [], .returned)),
  (1413, [], (.iconst 0, 1414, 0, [], .constant "" 0 (0))),
  (1415, [], (.goto 29, 1418, 1444, [], .returned))]
theorem ck_L31 : okT q_L_law t_L31 = true := by decide +kernel
theorem e_L31_1350 : lk t_L31 1350 = some (.aload_n 1, 1351, 1, [], .returned) := rfl
theorem e_L31_1351 : lk t_L31 1351 = some (.aload_n 0, 1352, 0, [], .returned) := rfl
theorem e_L31_1352 : lk t_L31 1352 = some (.iload 4, 1354, 4, [], .returned) := rfl
theorem e_L31_1354 : lk t_L31 1354 = some (.iconst 1, 1355, 0, [], .constant "" 0 (1)) := rfl
theorem e_L31_1355 : lk t_L31 1355 = some (.iadd, 1356, 0, [], .returned) := rfl
theorem e_L31_1356 : lk t_L31 1356 = some (.iaload, 1357, 0, [], .returned) := rfl
theorem e_L31_1357 : lk t_L31 1357 = some (.aload_n 0, 1358, 0, [], .returned) := rfl
theorem e_L31_1358 : lk t_L31 1358 = some (.iload 4, 1360, 4, [], .returned) := rfl
theorem e_L31_1360 : lk t_L31 1360 = some (.iconst 2, 1361, 0, [], .constant "" 0 (2)) := rfl
theorem e_L31_1361 : lk t_L31 1361 = some (.iadd, 1362, 0, [], .returned) := rfl
theorem e_L31_1362 : lk t_L31 1362 = some (.iaload, 1363, 0, [], .returned) := rfl
theorem e_L31_1363 : lk t_L31 1363 = some (.aload_n 3, 1364, 3, [], .returned) := rfl
theorem e_L31_1367 : lk t_L31 1367 = some (.istore 5, 1369, 5, [], .returned) := rfl
theorem e_L31_1369 : lk t_L31 1369 = some (.aload_n 2, 1370, 2, [], .returned) := rfl
theorem e_L31_1370 : lk t_L31 1370 = some (.aload_n 0, 1371, 0, [], .returned) := rfl
theorem e_L31_1371 : lk t_L31 1371 = some (.iload 4, 1373, 4, [], .returned) := rfl
theorem e_L31_1373 : lk t_L31 1373 = some (.iconst 1, 1374, 0, [], .constant "" 0 (1)) := rfl
theorem e_L31_1374 : lk t_L31 1374 = some (.iadd, 1375, 0, [], .returned) := rfl
theorem e_L31_1375 : lk t_L31 1375 = some (.iaload, 1376, 0, [], .returned) := rfl
theorem e_L31_1376 : lk t_L31 1376 = some (.aload_n 0, 1377, 0, [], .returned) := rfl
theorem e_L31_1377 : lk t_L31 1377 = some (.iload 4, 1379, 4, [], .returned) := rfl
theorem e_L31_1379 : lk t_L31 1379 = some (.iconst 2, 1380, 0, [], .constant "" 0 (2)) := rfl
theorem e_L31_1380 : lk t_L31 1380 = some (.iadd, 1381, 0, [], .returned) := rfl
theorem e_L31_1381 : lk t_L31 1381 = some (.iaload, 1382, 0, [], .returned) := rfl
theorem e_L31_1382 : lk t_L31 1382 = some (.invokevirtual 150, 1385, 0, [2, 10, 0, 0], .code yX10_turn cX10_turn 6 (some .int)) := rfl
theorem e_L31_1385 : lk t_L31 1385 = some (.istore 6, 1387, 6, [], .returned) := rfl
theorem e_L31_1387 : lk t_L31 1387 = some (.aload_n 2, 1388, 2, [], .returned) := rfl
theorem e_L31_1388 : lk t_L31 1388 = some (.invokevirtual 151, 1391, 0, [0, 10, 0, 0], .code yX10_thrown cX10_thrown 1 (some .int)) := rfl
theorem e_L31_1391 : lk t_L31 1391 = some (.iload 5, 1393, 5, [], .returned) := rfl
theorem e_L31_1393 : lk t_L31 1393 = some (.if_icmp .eq 5, 1396, 1398, [], .returned) := rfl
theorem e_L31_1396 : lk t_L31 1396 = some (.iconst 0, 1397, 0, [], .constant "" 0 (0)) := rfl
theorem e_L31_1398 : lk t_L31 1398 = some (.iload 5, 1400, 5, [], .returned) := rfl
theorem e_L31_1400 : lk t_L31 1400 = some (.ifCond .ne 15, 1403, 1415, [], .returned) := rfl
theorem e_L31_1403 : lk t_L31 1403 = some (.aload_n 3, 1404, 3, [], .returned) := rfl
theorem e_L31_1404 : lk t_L31 1404 = some (.iconst 0, 1405, 0, [], .constant "" 0 (0)) := rfl
theorem e_L31_1405 : lk t_L31 1405 = some (.laload, 1406, 0, [], .returned) := rfl
theorem e_L31_1406 : lk t_L31 1406 = some (.iload 6, 1408, 6, [], .returned) := rfl
theorem e_L31_1408 : lk t_L31 1408 = some (.i2l, 1409, 0, [], .returned) := rfl
theorem e_L31_1409 : lk t_L31 1409 = some (.lcmp, 1410, 0, [], .returned) := rfl
theorem e_L31_1410 : lk t_L31 1410 = some (.ifCond .eq 5, 1413, 1415, [], .returned) := rfl
theorem e_L31_1413 : lk t_L31 1413 = some (.iconst 0, 1414, 0, [], .constant "" 0 (0)) := rfl
theorem e_L31_1415 : lk t_L31 1415 = some (.goto 29, 1418, 1444, [], .returned) := rfl
def t_L32 : Tab := [(1418, [], (.aload_n 1, 1419, 1, [], .returned)),
  (1419, [958, 961, 959, 960, 92], (.invokevirtual 154, 1422, 0, [0, 9, 0, 0], .code yX9_size cX9_size 1 (some .int))),
  (1422, [], (.aload_n 2, 1423, 2, [], .returned)),
  (1423, [1581, 1584, 1582, 1583, 102], (.invokevirtual 157, 1426, 0, [0, 10, 0, 0], .code yX10_size cX10_size 1 (some .int))),
  (1426, [], (.if_icmp .eq 18, 1429, 1444, [], .returned)),
  (1429, [], (.iconst 0, 1430, 0, [], .constant "" 0 (0)))]
theorem ck_L32 : okT q_L_law t_L32 = true := by decide +kernel
theorem e_L32_1418 : lk t_L32 1418 = some (.aload_n 1, 1419, 1, [], .returned) := rfl
theorem e_L32_1419 : lk t_L32 1419 = some (.invokevirtual 154, 1422, 0, [0, 9, 0, 0], .code yX9_size cX9_size 1 (some .int)) := rfl
theorem e_L32_1422 : lk t_L32 1422 = some (.aload_n 2, 1423, 2, [], .returned) := rfl
theorem e_L32_1423 : lk t_L32 1423 = some (.invokevirtual 157, 1426, 0, [0, 10, 0, 0], .code yX10_size cX10_size 1 (some .int)) := rfl
theorem e_L32_1426 : lk t_L32 1426 = some (.if_icmp .eq 18, 1429, 1444, [], .returned) := rfl
theorem e_L32_1429 : lk t_L32 1429 = some (.iconst 0, 1430, 0, [], .constant "" 0 (0)) := rfl
def t_L33 : Tab := [(1431, [], (.aload_n 1, 1432, 1, [], .returned)),
  (1432, [962, 965, 963, 964, 92], (.invokevirtual 158, 1435, 0, [0, 9, 0, 0], .code yX9_trouble cX9_trouble 1 (some .int))),
  (1435, [], (.aload_n 2, 1436, 2, [], .returned)),
  (1436, [1585, 1588, 1586, 1587, 102], (.invokevirtual 161, 1439, 0, [0, 10, 0, 0], .code yX10_trouble cX10_trouble 1 (some .int))),
  (1439, [], (.if_icmp .eq 5, 1442, 1444, [], .returned)),
  (1442, [], (.iconst 0, 1443, 0, [], .constant "" 0 (0)))]
theorem ck_L33 : okT q_L_law t_L33 = true := by decide +kernel
theorem e_L33_1431 : lk t_L33 1431 = some (.aload_n 1, 1432, 1, [], .returned) := rfl
theorem e_L33_1432 : lk t_L33 1432 = some (.invokevirtual 158, 1435, 0, [0, 9, 0, 0], .code yX9_trouble cX9_trouble 1 (some .int)) := rfl
theorem e_L33_1435 : lk t_L33 1435 = some (.aload_n 2, 1436, 2, [], .returned) := rfl
theorem e_L33_1436 : lk t_L33 1436 = some (.invokevirtual 161, 1439, 0, [0, 10, 0, 0], .code yX10_trouble cX10_trouble 1 (some .int)) := rfl
theorem e_L33_1439 : lk t_L33 1439 = some (.if_icmp .eq 5, 1442, 1444, [], .returned) := rfl
theorem e_L33_1442 : lk t_L33 1442 = some (.iconst 0, 1443, 0, [], .constant "" 0 (0)) := rfl
def t_L34 : Tab := [(1444, [], (.iinc 4 6, 1447, 4, [], .constant "" 0 (6))),
  (1447, [], (.goto (-1424), 1450, 23, [], .returned)),
  (1450, [], (.iconst 1, 1451, 0, [], .constant "" 0 (1)))]
theorem ck_L34 : okT q_L_law t_L34 = true := by decide +kernel
theorem e_L34_1444 : lk t_L34 1444 = some (.iinc 4 6, 1447, 4, [], .constant "" 0 (6)) := rfl
theorem e_L34_1447 : lk t_L34 1447 = some (.goto (-1424), 1450, 23, [], .returned) := rfl
theorem e_L34_1450 : lk t_L34 1450 = some (.iconst 1, 1451, 0, [], .constant "" 0 (1)) := rfl
theorem GG.ok_L0 : okS t_L0 = true := by decide +kernel
theorem GG.ok_L1 : okS t_L1 = true := by decide +kernel
theorem GG.ok_L2 : okS t_L2 = true := by decide +kernel
theorem GG.ok_L3 : okS t_L3 = true := by decide +kernel
theorem GG.ok_L4 : okS t_L4 = true := by decide +kernel
theorem GG.ok_L5 : okS t_L5 = true := by decide +kernel
theorem GG.ok_L6 : okS t_L6 = true := by decide +kernel
theorem GG.ok_L7 : okS t_L7 = true := by decide +kernel
theorem GG.ok_L8 : okS t_L8 = true := by decide +kernel
theorem GG.ok_L9 : okS t_L9 = true := by decide +kernel
theorem GG.ok_L10 : okS t_L10 = true := by decide +kernel
theorem GG.ok_L11 : okS t_L11 = true := by decide +kernel
theorem GG.ok_L12 : okS t_L12 = true := by decide +kernel
theorem GG.ok_L13 : okS t_L13 = true := by decide +kernel
theorem GG.ok_L14 : okS t_L14 = true := by decide +kernel
theorem GG.ok_L15 : okS t_L15 = true := by decide +kernel
theorem GG.ok_L16 : okS t_L16 = true := by decide +kernel
theorem GG.ok_L17 : okS t_L17 = true := by decide +kernel
theorem GG.ok_L18 : okS t_L18 = true := by decide +kernel
theorem GG.ok_L19 : okS t_L19 = true := by decide +kernel
theorem GG.ok_L20 : okS t_L20 = true := by decide +kernel
theorem GG.ok_L21 : okS t_L21 = true := by decide +kernel
theorem GG.ok_L22 : okS t_L22 = true := by decide +kernel
theorem GG.ok_L23 : okS t_L23 = true := by decide +kernel
theorem GG.ok_L24 : okS t_L24 = true := by decide +kernel
theorem GG.ok_L25 : okS t_L25 = true := by decide +kernel
theorem GG.ok_L26 : okS t_L26 = true := by decide +kernel
theorem GG.ok_L27 : okS t_L27 = true := by decide +kernel
theorem GG.ok_L28 : okS t_L28 = true := by decide +kernel
theorem GG.ok_L29 : okS t_L29 = true := by decide +kernel
theorem GG.ok_L30 : okS t_L30 = true := by decide +kernel
theorem GG.ok_L31 : okS t_L31 = true := by decide +kernel
theorem GG.ok_L32 : okS t_L32 = true := by decide +kernel
theorem GG.ok_L33 : okS t_L33 = true := by decide +kernel
theorem GG.ok_L34 : okS t_L34 = true := by decide +kernel
theorem GG.z_L1_260 : lk t_L1 260 = none := rfl
theorem GG.z_L2_285 : lk t_L2 285 = none := rfl
theorem GG.z_L3_298 : lk t_L3 298 = none := rfl
theorem GG.z_L4_311 : lk t_L4 311 = none := rfl
theorem GG.z_L5_336 : lk t_L5 336 = none := rfl
theorem GG.z_L6_373 : lk t_L6 373 = none := rfl
theorem GG.z_L7_410 : lk t_L7 410 = none := rfl
theorem GG.z_L8_459 : lk t_L8 459 = none := rfl
theorem GG.z_L9_508 : lk t_L9 508 = none := rfl
theorem GG.z_L10_545 : lk t_L10 545 = none := rfl
theorem GG.z_L11_594 : lk t_L11 594 = none := rfl
theorem GG.z_L12_631 : lk t_L12 631 = none := rfl
theorem GG.z_L13_680 : lk t_L13 680 = none := rfl
theorem GG.z_L14_741 : lk t_L14 741 = none := rfl
theorem GG.z_L15_778 : lk t_L15 778 = none := rfl
theorem GG.z_L16_827 : lk t_L16 827 = none := rfl
theorem GG.z_L17_864 : lk t_L17 864 = none := rfl
theorem GG.z_L18_901 : lk t_L18 901 = none := rfl
theorem GG.z_L19_938 : lk t_L19 938 = none := rfl
theorem GG.z_L20_999 : lk t_L20 999 = none := rfl
theorem GG.z_L21_1024 : lk t_L21 1024 = none := rfl
theorem GG.z_L22_1049 : lk t_L22 1049 = none := rfl
theorem GG.z_L23_1086 : lk t_L23 1086 = none := rfl
theorem GG.z_L24_1139 : lk t_L24 1139 = none := rfl
theorem GG.z_L25_1176 : lk t_L25 1176 = none := rfl
theorem GG.z_L26_1213 : lk t_L26 1213 = none := rfl
theorem GG.z_L27_1250 : lk t_L27 1250 = none := rfl
theorem GG.z_L28_1287 : lk t_L28 1287 = none := rfl
theorem GG.z_L29_1324 : lk t_L29 1324 = none := rfl
theorem GG.z_L30_1349 : lk t_L30 1349 = none := rfl
theorem GG.z_L31_1364 : lk t_L31 1364 = none := rfl
theorem GG.z_L31_1397 : lk t_L31 1397 = none := rfl
theorem GG.z_L31_1414 : lk t_L31 1414 = none := rfl
theorem GG.z_L32_1430 : lk t_L32 1430 = none := rfl
theorem GG.z_L33_1443 : lk t_L33 1443 = none := rfl
theorem GG.z_L34_1451 : lk t_L34 1451 = none := rfl
