/-- the cells of the reference -/
def RefAt (σ : St) : Prop := gN σ = 107 ∧ gR σ 89 3 = some 90 ∧ gR σ 89 12 = some 91 ∧ gR σ 89 13 = some 92 ∧ gR σ 89 14 = some 93 ∧ gR σ 89 17 = some 94 ∧ gR σ 89 18 = some 95 ∧ gR σ 89 19 = some 96 ∧ gR σ 89 20 = some 97 ∧ gR σ 89 21 = some 98 ∧ gR σ 89 22 = some 99 ∧ gR σ 89 23 = some 100 ∧ gR σ 89 25 = some 101 ∧ gR σ 89 26 = some 102 ∧ gR σ 89 28 = some 103 ∧ gR σ 89 29 = some 104 ∧ gR σ 89 30 = some 105
theorem lit_add {c o : Nat} : (@OfNat.ofNat Int32 c Int32.instOfNat) + nI o = nI (c + o) := nI_add c o
theorem lit_mul {c o : Nat} : (@OfNat.ofNat Int32 c Int32.instOfNat) * nI o = nI (c * o) := pk_mul c o
theorem vx0 : vp_in 0 100 := vp_in_nI (n := 0) (by omega) (by omega)
theorem vx1 : vp_in 1 100 := vp_in_nI (n := 1) (by omega) (by omega)
theorem vx2 : vp_in 2 100 := vp_in_nI (n := 2) (by omega) (by omega)
theorem vx3 : vp_in 3 100 := vp_in_nI (n := 3) (by omega) (by omega)
theorem vx4 : vp_in 4 100 := vp_in_nI (n := 4) (by omega) (by omega)
theorem vx5 : vp_in 5 100 := vp_in_nI (n := 5) (by omega) (by omega)
theorem cx0 : Int32.toNatClampNeg 0 = 0 := rfl
theorem cx1 : Int32.toNatClampNeg 1 = 1 := nI_clamp (n := 1) (by omega)
theorem cx2 : Int32.toNatClampNeg 2 = 2 := nI_clamp (n := 2) (by omega)
theorem cx3 : Int32.toNatClampNeg 3 = 3 := nI_clamp (n := 3) (by omega)
theorem cx4 : Int32.toNatClampNeg 4 = 4 := nI_clamp (n := 4) (by omega)
theorem cx5 : Int32.toNatClampNeg 5 = 5 := nI_clamp (n := 5) (by omega)
def grI (a b : Int32) : Int32 := if b < a then a else b
def leI (a b : Int32) : Int32 := if a < b then a else b
def rRest (σ : St) (t o : Nat) : Int32 := if gI σ 91 (63 + o) = 0 then 999999 else gI σ 91 (63 + o) - gI σ 94 (t + o)
def rLive (σ : St) (t o : Nat) : Bool := decide (gI σ 100 o = 0 ∧ 0 < rRest σ t o)
def rAt (σ : St) (o : Nat) (p : Int32) : Bool := decide (gI σ 91 (81 + o) >>> (p &&& 31) &&& 1 = 1)
def rFloor (σ : St) (p : Nat) (net : Int32) : Int32 := grI (gI σ 91 0 * gI σ 91 (48 + p)) ((gI σ 91 1 * net + 99) / 100)
def rOwn (σ : St) (o p : Nat) (net : Int32) : Int32 := grI (rFloor σ p net) (gI σ 91 (57 + o) * gI σ 91 (48 + p))
section RLEAF
variable {d t o p : Nat} {σ : St} {Rt : Option Value → St → Prop}
set_option maxRecDepth 10000 in
theorem C_X10_thrown (hR : RefAt σ) (h : Rt (some (.int (gI σ 89 0))) σ) : Con d q_X10_thrown 0 0 [.ref 89] σ Rt := by
  have hR0 := hR
  obtain ⟨hN, rtp, rx, rrd, rnm, rtk, row, rtm, rpd, rnt, rtn, rst, rwt, rgt, rlg, rlw, rlt⟩ := hR
  have h89 : 89 < gN σ := by omega
  have h90 : 90 < gN σ := by omega
  have h91 : 91 < gN σ := by omega
  have h92 : 92 < gN σ := by omega
  have h93 : 93 < gN σ := by omega
  have h94 : 94 < gN σ := by omega
  have h95 : 95 < gN σ := by omega
  have h96 : 96 < gN σ := by omega
  have h97 : 97 < gN σ := by omega
  have h98 : 98 < gN σ := by omega
  have h99 : 99 < gN σ := by omega
  have h100 : 100 < gN σ := by omega
  have h101 : 101 < gN σ := by omega
  have h102 : 102 < gN σ := by omega
  have h103 : 103 < gN σ := by omega
  have h104 : 104 < gN σ := by omega
  have h105 : 105 < gN σ := by omega
  refine Con_of_X (ls := [.ref 89]) rfl (Nat.le_of_ble_eq_true rfl) rfl ?_
  refine X_wp [] ck_X10_thrown 5 ?_
  simp (decide := true) only [wp_s e_X10_thrown_0, wp_s e_X10_thrown_1, wp_s e_X10_thrown_4, st_iadd, st_isub, st_imul, st_iand, st_ior, st_ishl, st_ishr, st_idiv, st_irem, st_ladd, st_lsub, st_lmul, st_lor, st_land, st_ldiv, st_lshl, st_lcmp, st_i2l, st_i2b, st_l2i, st_i2c, st_iconst, st_bipush, st_sipush, st_lconst, st_ldc2_w, st_ldc_w, st_ldcI, st_ldcS, st_iload, st_iload_n, st_lload, st_lload_n, st_aload, st_aload_n, st_istore, st_istore_n, st_lstore, st_lstore_n, st_astore, st_astore_n, st_iinc, st_dup, st_pop, st_dup2, st_ifCond, st_if_icmp, st_goto, st_getI, st_getL, st_getR, st_putI, st_putL, st_putR, st_putZ, st_sval, st_scod, st_baload, st_baloadS, st_alen, st_alenS, st_gets1, st_getsF, st_iaload, st_laload, st_aaload, st_iastore, st_lastore, st_bastoreB, st_bastoreZ, st_aastore, st_iret, st_zret, st_cret, st_bret, st_return_, st_areturn, st_invV, st_invVS, st_invS, st_invI, st_min, st_max, st_obj, st_new, st_newarray, st_anewarray, st_multianewarray, st_table, st_lookup, pI_c, pL_c, pR_c, p1_i, p1_r, p1_n, iI_0, iI_s, iL_0, iL_s, iR_0, iR_s, rfV_s, kc_c, kl_c, cats_0, cats_i, cats_l, cats_r, rcv_c, rcvS_c, isRefA_c, cl_0, cl_1, cl_2, cl_3, cl_4, cl_5, cl_6, cl_7, set1_0, set1_1i, set1_1r, set1_1n, set1_s, set2_s, set2_1i, set2_1r, set2_1n, toL_s, toL_n, cnd, and_self, true_and, and_true, true_or, or_true, List.contains_nil, List.contains_cons, Bool.or_false, beq_iff_eq, Nat.reduceBEq, Nat.reduceEqDiff, Nat.reduceAdd, Nat.reduceLeDiff, Nat.reduceSub, Bool.false_eq_true, if_false, if_true, Nat.zero_le, Nat.add_zero, Nat.zero_add, Nat.le_refl, gN_sI, gN_sL, gN_sR, gR_sI, gR_sL, gR_sR, rtp, rx, rrd, rnm, rtk, row, rtm, rpd, rnt, rtn, rst, rwt, rgt, rlg, rlw, rlt, sh_89, sh_90, sh_91, sh_92, sh_93, sh_94, sh_95, sh_96, sh_97, sh_98, sh_99, sh_100, sh_101, sh_102, sh_103, sh_104, sh_105, h89, h90, h91, h92, h93, h94, h95, h96, h97, h98, h99, h100, h101, h102, h103, h104, h105, nI_add, vx0, vx1, vx2, vx3, vx4, vx5, cx0, cx1, cx2, cx3, cx4, cx5]
  exact h
set_option maxRecDepth 10000 in
theorem C_X10_refused {w : Int32} (hR : RefAt σ) (h : Rt (some (.int (-1))) (sI (sI σ 89 1 w) 89 2 (-1))) : Con d q_X10_refused 0 0 [.ref 89, .int w] σ Rt := by
  have hR0 := hR
  obtain ⟨hN, rtp, rx, rrd, rnm, rtk, row, rtm, rpd, rnt, rtn, rst, rwt, rgt, rlg, rlw, rlt⟩ := hR
  have h89 : 89 < gN σ := by omega
  have h90 : 90 < gN σ := by omega
  have h91 : 91 < gN σ := by omega
  have h92 : 92 < gN σ := by omega
  have h93 : 93 < gN σ := by omega
  have h94 : 94 < gN σ := by omega
  have h95 : 95 < gN σ := by omega
  have h96 : 96 < gN σ := by omega
  have h97 : 97 < gN σ := by omega
  have h98 : 98 < gN σ := by omega
  have h99 : 99 < gN σ := by omega
  have h100 : 100 < gN σ := by omega
  have h101 : 101 < gN σ := by omega
  have h102 : 102 < gN σ := by omega
  have h103 : 103 < gN σ := by omega
  have h104 : 104 < gN σ := by omega
  have h105 : 105 < gN σ := by omega
  refine Con_of_X (ls := [.ref 89, .int w]) rfl (Nat.le_of_ble_eq_true rfl) rfl ?_
  refine X_wp [] ck_X10_refused 10 ?_
  simp (decide := true) only [wp_s e_X10_refused_0, wp_s e_X10_refused_1, wp_s e_X10_refused_2, wp_s e_X10_refused_5, wp_s e_X10_refused_6, wp_s e_X10_refused_7, wp_s e_X10_refused_10, wp_s e_X10_refused_11, st_iadd, st_isub, st_imul, st_iand, st_ior, st_ishl, st_ishr, st_idiv, st_irem, st_ladd, st_lsub, st_lmul, st_lor, st_land, st_ldiv, st_lshl, st_lcmp, st_i2l, st_i2b, st_l2i, st_i2c, st_iconst, st_bipush, st_sipush, st_lconst, st_ldc2_w, st_ldc_w, st_ldcI, st_ldcS, st_iload, st_iload_n, st_lload, st_lload_n, st_aload, st_aload_n, st_istore, st_istore_n, st_lstore, st_lstore_n, st_astore, st_astore_n, st_iinc, st_dup, st_pop, st_dup2, st_ifCond, st_if_icmp, st_goto, st_getI, st_getL, st_getR, st_putI, st_putL, st_putR, st_putZ, st_sval, st_scod, st_baload, st_baloadS, st_alen, st_alenS, st_gets1, st_getsF, st_iaload, st_laload, st_aaload, st_iastore, st_lastore, st_bastoreB, st_bastoreZ, st_aastore, st_iret, st_zret, st_cret, st_bret, st_return_, st_areturn, st_invV, st_invVS, st_invS, st_invI, st_min, st_max, st_obj, st_new, st_newarray, st_anewarray, st_multianewarray, st_table, st_lookup, pI_c, pL_c, pR_c, p1_i, p1_r, p1_n, iI_0, iI_s, iL_0, iL_s, iR_0, iR_s, rfV_s, kc_c, kl_c, cats_0, cats_i, cats_l, cats_r, rcv_c, rcvS_c, isRefA_c, cl_0, cl_1, cl_2, cl_3, cl_4, cl_5, cl_6, cl_7, set1_0, set1_1i, set1_1r, set1_1n, set1_s, set2_s, set2_1i, set2_1r, set2_1n, toL_s, toL_n, cnd, and_self, true_and, and_true, true_or, or_true, List.contains_nil, List.contains_cons, Bool.or_false, beq_iff_eq, Nat.reduceBEq, Nat.reduceEqDiff, Nat.reduceAdd, Nat.reduceLeDiff, Nat.reduceSub, Bool.false_eq_true, if_false, if_true, Nat.zero_le, Nat.add_zero, Nat.zero_add, Nat.le_refl, gN_sI, gN_sL, gN_sR, gR_sI, gR_sL, gR_sR, rtp, rx, rrd, rnm, rtk, row, rtm, rpd, rnt, rtn, rst, rwt, rgt, rlg, rlw, rlt, sh_89, sh_90, sh_91, sh_92, sh_93, sh_94, sh_95, sh_96, sh_97, sh_98, sh_99, sh_100, sh_101, sh_102, sh_103, sh_104, sh_105, h89, h90, h91, h92, h93, h94, h95, h96, h97, h98, h99, h100, h101, h102, h103, h104, h105, nI_add, vx0, vx1, vx2, vx3, vx4, vx5, cx0, cx1, cx2, cx3, cx4, cx5]
  exact h
set_option maxRecDepth 10000 in
theorem C_X10_good {w : Int32} (hR : RefAt σ) (h : Rt (some (.int w)) (sI (sI σ 89 1 0) 89 2 (-1))) : Con d q_X10_good 0 0 [.ref 89, .int w] σ Rt := by
  have hR0 := hR
  obtain ⟨hN, rtp, rx, rrd, rnm, rtk, row, rtm, rpd, rnt, rtn, rst, rwt, rgt, rlg, rlw, rlt⟩ := hR
  have h89 : 89 < gN σ := by omega
  have h90 : 90 < gN σ := by omega
  have h91 : 91 < gN σ := by omega
  have h92 : 92 < gN σ := by omega
  have h93 : 93 < gN σ := by omega
  have h94 : 94 < gN σ := by omega
  have h95 : 95 < gN σ := by omega
  have h96 : 96 < gN σ := by omega
  have h97 : 97 < gN σ := by omega
  have h98 : 98 < gN σ := by omega
  have h99 : 99 < gN σ := by omega
  have h100 : 100 < gN σ := by omega
  have h101 : 101 < gN σ := by omega
  have h102 : 102 < gN σ := by omega
  have h103 : 103 < gN σ := by omega
  have h104 : 104 < gN σ := by omega
  have h105 : 105 < gN σ := by omega
  refine Con_of_X (ls := [.ref 89, .int w]) rfl (Nat.le_of_ble_eq_true rfl) rfl ?_
  refine X_wp [] ck_X10_good 10 ?_
  simp (decide := true) only [wp_s e_X10_good_0, wp_s e_X10_good_1, wp_s e_X10_good_2, wp_s e_X10_good_5, wp_s e_X10_good_6, wp_s e_X10_good_7, wp_s e_X10_good_10, wp_s e_X10_good_11, st_iadd, st_isub, st_imul, st_iand, st_ior, st_ishl, st_ishr, st_idiv, st_irem, st_ladd, st_lsub, st_lmul, st_lor, st_land, st_ldiv, st_lshl, st_lcmp, st_i2l, st_i2b, st_l2i, st_i2c, st_iconst, st_bipush, st_sipush, st_lconst, st_ldc2_w, st_ldc_w, st_ldcI, st_ldcS, st_iload, st_iload_n, st_lload, st_lload_n, st_aload, st_aload_n, st_istore, st_istore_n, st_lstore, st_lstore_n, st_astore, st_astore_n, st_iinc, st_dup, st_pop, st_dup2, st_ifCond, st_if_icmp, st_goto, st_getI, st_getL, st_getR, st_putI, st_putL, st_putR, st_putZ, st_sval, st_scod, st_baload, st_baloadS, st_alen, st_alenS, st_gets1, st_getsF, st_iaload, st_laload, st_aaload, st_iastore, st_lastore, st_bastoreB, st_bastoreZ, st_aastore, st_iret, st_zret, st_cret, st_bret, st_return_, st_areturn, st_invV, st_invVS, st_invS, st_invI, st_min, st_max, st_obj, st_new, st_newarray, st_anewarray, st_multianewarray, st_table, st_lookup, pI_c, pL_c, pR_c, p1_i, p1_r, p1_n, iI_0, iI_s, iL_0, iL_s, iR_0, iR_s, rfV_s, kc_c, kl_c, cats_0, cats_i, cats_l, cats_r, rcv_c, rcvS_c, isRefA_c, cl_0, cl_1, cl_2, cl_3, cl_4, cl_5, cl_6, cl_7, set1_0, set1_1i, set1_1r, set1_1n, set1_s, set2_s, set2_1i, set2_1r, set2_1n, toL_s, toL_n, cnd, and_self, true_and, and_true, true_or, or_true, List.contains_nil, List.contains_cons, Bool.or_false, beq_iff_eq, Nat.reduceBEq, Nat.reduceEqDiff, Nat.reduceAdd, Nat.reduceLeDiff, Nat.reduceSub, Bool.false_eq_true, if_false, if_true, Nat.zero_le, Nat.add_zero, Nat.zero_add, Nat.le_refl, gN_sI, gN_sL, gN_sR, gR_sI, gR_sL, gR_sR, rtp, rx, rrd, rnm, rtk, row, rtm, rpd, rnt, rtn, rst, rwt, rgt, rlg, rlw, rlt, sh_89, sh_90, sh_91, sh_92, sh_93, sh_94, sh_95, sh_96, sh_97, sh_98, sh_99, sh_100, sh_101, sh_102, sh_103, sh_104, sh_105, h89, h90, h91, h92, h93, h94, h95, h96, h97, h98, h99, h100, h101, h102, h103, h104, h105, nI_add, vx0, vx1, vx2, vx3, vx4, vx5, cx0, cx1, cx2, cx3, cx4, cx5]
  exact h
set_option maxRecDepth 10000 in
theorem C_X10_in {v a b : Int32} (h : Rt (some (.int (bI (decide (a ≤ v ∧ v ≤ b))))) σ) : Con d q_X10_in 0 0 [.int v, .int a, .int b] σ Rt := by
  refine Con_of_X (ls := [.int v, .int a, .int b]) rfl (Nat.le_of_ble_eq_true rfl) rfl ?_
  refine X_wp [] ck_X10_in 12 ?_
  simp (decide := true) only [wp_s e_X10_in_0, wp_s e_X10_in_1, wp_s e_X10_in_2, wp_s e_X10_in_5, wp_s e_X10_in_6, wp_s e_X10_in_7, wp_s e_X10_in_10, wp_s e_X10_in_11, wp_s e_X10_in_14, wp_s e_X10_in_15, st_iadd, st_isub, st_imul, st_iand, st_ior, st_ishl, st_ishr, st_idiv, st_irem, st_ladd, st_lsub, st_lmul, st_lor, st_land, st_ldiv, st_lshl, st_lcmp, st_i2l, st_i2b, st_l2i, st_i2c, st_iconst, st_bipush, st_sipush, st_lconst, st_ldc2_w, st_ldc_w, st_ldcI, st_ldcS, st_iload, st_iload_n, st_lload, st_lload_n, st_aload, st_aload_n, st_istore, st_istore_n, st_lstore, st_lstore_n, st_astore, st_astore_n, st_iinc, st_dup, st_pop, st_dup2, st_ifCond, st_if_icmp, st_goto, st_getI, st_getL, st_getR, st_putI, st_putL, st_putR, st_putZ, st_sval, st_scod, st_baload, st_baloadS, st_alen, st_alenS, st_gets1, st_getsF, st_iaload, st_laload, st_aaload, st_iastore, st_lastore, st_bastoreB, st_bastoreZ, st_aastore, st_iret, st_zret, st_cret, st_bret, st_return_, st_areturn, st_invV, st_invVS, st_invS, st_invI, st_min, st_max, st_obj, st_new, st_newarray, st_anewarray, st_multianewarray, st_table, st_lookup, pI_c, pL_c, pR_c, p1_i, p1_r, p1_n, iI_0, iI_s, iL_0, iL_s, iR_0, iR_s, rfV_s, kc_c, kl_c, cats_0, cats_i, cats_l, cats_r, rcv_c, rcvS_c, isRefA_c, cl_0, cl_1, cl_2, cl_3, cl_4, cl_5, cl_6, cl_7, set1_0, set1_1i, set1_1r, set1_1n, set1_s, set2_s, set2_1i, set2_1r, set2_1n, toL_s, toL_n, cnd, and_self, true_and, and_true, true_or, or_true, List.contains_nil, List.contains_cons, Bool.or_false, beq_iff_eq, Nat.reduceBEq, Nat.reduceEqDiff, Nat.reduceAdd, Nat.reduceLeDiff, Nat.reduceSub, Bool.false_eq_true, if_false, if_true, Nat.zero_le, Nat.add_zero, Nat.zero_add, Nat.le_refl, gN_sI, gN_sL, gN_sR, gR_sI, gR_sL, gR_sR, @lit_add 1]
  repeat' first
    | exact vp_in_nI (by omega) (by omega)
    | refine ⟨?_, ?_⟩
    | (show _ → _; intro _)
  all_goals first | exact h | rfl | grind [cats_0, bI]
set_option maxRecDepth 10000 in
theorem C_X10_lesser {a b : Int32} (h : Rt (some (.int (leI a b))) σ) : Con d q_X10_lesser 0 0 [.int a, .int b] σ Rt := by
  refine Con_of_X (ls := [.int a, .int b]) rfl (Nat.le_of_ble_eq_true rfl) rfl ?_
  refine X_wp [] ck_X10_lesser 9 ?_
  simp (decide := true) only [wp_s e_X10_lesser_0, wp_s e_X10_lesser_1, wp_s e_X10_lesser_2, wp_s e_X10_lesser_5, wp_s e_X10_lesser_6, wp_s e_X10_lesser_9, wp_s e_X10_lesser_10, st_iadd, st_isub, st_imul, st_iand, st_ior, st_ishl, st_ishr, st_idiv, st_irem, st_ladd, st_lsub, st_lmul, st_lor, st_land, st_ldiv, st_lshl, st_lcmp, st_i2l, st_i2b, st_l2i, st_i2c, st_iconst, st_bipush, st_sipush, st_lconst, st_ldc2_w, st_ldc_w, st_ldcI, st_ldcS, st_iload, st_iload_n, st_lload, st_lload_n, st_aload, st_aload_n, st_istore, st_istore_n, st_lstore, st_lstore_n, st_astore, st_astore_n, st_iinc, st_dup, st_pop, st_dup2, st_ifCond, st_if_icmp, st_goto, st_getI, st_getL, st_getR, st_putI, st_putL, st_putR, st_putZ, st_sval, st_scod, st_baload, st_baloadS, st_alen, st_alenS, st_gets1, st_getsF, st_iaload, st_laload, st_aaload, st_iastore, st_lastore, st_bastoreB, st_bastoreZ, st_aastore, st_iret, st_zret, st_cret, st_bret, st_return_, st_areturn, st_invV, st_invVS, st_invS, st_invI, st_min, st_max, st_obj, st_new, st_newarray, st_anewarray, st_multianewarray, st_table, st_lookup, pI_c, pL_c, pR_c, p1_i, p1_r, p1_n, iI_0, iI_s, iL_0, iL_s, iR_0, iR_s, rfV_s, kc_c, kl_c, cats_0, cats_i, cats_l, cats_r, rcv_c, rcvS_c, isRefA_c, cl_0, cl_1, cl_2, cl_3, cl_4, cl_5, cl_6, cl_7, set1_0, set1_1i, set1_1r, set1_1n, set1_s, set2_s, set2_1i, set2_1r, set2_1n, toL_s, toL_n, cnd, and_self, true_and, and_true, true_or, or_true, List.contains_nil, List.contains_cons, Bool.or_false, beq_iff_eq, Nat.reduceBEq, Nat.reduceEqDiff, Nat.reduceAdd, Nat.reduceLeDiff, Nat.reduceSub, Bool.false_eq_true, if_false, if_true, Nat.zero_le, Nat.add_zero, Nat.zero_add, Nat.le_refl, gN_sI, gN_sL, gN_sR, gR_sI, gR_sL, gR_sR]
  repeat' first
    | exact vp_in_nI (by omega) (by omega)
    | refine ⟨?_, ?_⟩
    | (show _ → _; intro _)
  all_goals first | exact h | rfl | grind [cats_0, leI]
set_option maxRecDepth 10000 in
theorem C_X10_greater {a b : Int32} (h : Rt (some (.int (grI a b))) σ) : Con d q_X10_greater 0 0 [.int a, .int b] σ Rt := by
  refine Con_of_X (ls := [.int a, .int b]) rfl (Nat.le_of_ble_eq_true rfl) rfl ?_
  refine X_wp [] ck_X10_greater 9 ?_
  simp (decide := true) only [wp_s e_X10_greater_0, wp_s e_X10_greater_1, wp_s e_X10_greater_2, wp_s e_X10_greater_5, wp_s e_X10_greater_6, wp_s e_X10_greater_9, wp_s e_X10_greater_10, st_iadd, st_isub, st_imul, st_iand, st_ior, st_ishl, st_ishr, st_idiv, st_irem, st_ladd, st_lsub, st_lmul, st_lor, st_land, st_ldiv, st_lshl, st_lcmp, st_i2l, st_i2b, st_l2i, st_i2c, st_iconst, st_bipush, st_sipush, st_lconst, st_ldc2_w, st_ldc_w, st_ldcI, st_ldcS, st_iload, st_iload_n, st_lload, st_lload_n, st_aload, st_aload_n, st_istore, st_istore_n, st_lstore, st_lstore_n, st_astore, st_astore_n, st_iinc, st_dup, st_pop, st_dup2, st_ifCond, st_if_icmp, st_goto, st_getI, st_getL, st_getR, st_putI, st_putL, st_putR, st_putZ, st_sval, st_scod, st_baload, st_baloadS, st_alen, st_alenS, st_gets1, st_getsF, st_iaload, st_laload, st_aaload, st_iastore, st_lastore, st_bastoreB, st_bastoreZ, st_aastore, st_iret, st_zret, st_cret, st_bret, st_return_, st_areturn, st_invV, st_invVS, st_invS, st_invI, st_min, st_max, st_obj, st_new, st_newarray, st_anewarray, st_multianewarray, st_table, st_lookup, pI_c, pL_c, pR_c, p1_i, p1_r, p1_n, iI_0, iI_s, iL_0, iL_s, iR_0, iR_s, rfV_s, kc_c, kl_c, cats_0, cats_i, cats_l, cats_r, rcv_c, rcvS_c, isRefA_c, cl_0, cl_1, cl_2, cl_3, cl_4, cl_5, cl_6, cl_7, set1_0, set1_1i, set1_1r, set1_1n, set1_s, set2_s, set2_1i, set2_1r, set2_1n, toL_s, toL_n, cnd, and_self, true_and, and_true, true_or, or_true, List.contains_nil, List.contains_cons, Bool.or_false, beq_iff_eq, Nat.reduceBEq, Nat.reduceEqDiff, Nat.reduceAdd, Nat.reduceLeDiff, Nat.reduceSub, Bool.false_eq_true, if_false, if_true, Nat.zero_le, Nat.add_zero, Nat.zero_add, Nat.le_refl, gN_sI, gN_sL, gN_sR, gR_sI, gR_sL, gR_sR]
  repeat' first
    | exact vp_in_nI (by omega) (by omega)
    | refine ⟨?_, ?_⟩
    | (show _ → _; intro _)
  all_goals first | exact h | rfl | grind [cats_0, grI]
set_option maxRecDepth 10000 in
theorem C_X10_isNet {n : Int32} (hd : 1 ≤ d) (h : Rt (some (.int (bI (decide (0 ≤ n ∧ n ≤ 9999))))) σ) : Con d q_X10_isNet 0 0 [.int n] σ Rt := by
  have hd0 : 0 < d := by omega
  refine Con_of_X (ls := [.int n]) rfl (Nat.le_of_ble_eq_true rfl) rfl ?_
  refine X_wp [] ck_X10_isNet 7 ?_
  simp (decide := true) only [wp_s e_X10_isNet_0, wp_s e_X10_isNet_1, wp_s e_X10_isNet_2, wp_s e_X10_isNet_5, wp_s e_X10_isNet_8, st_iadd, st_isub, st_imul, st_iand, st_ior, st_ishl, st_ishr, st_idiv, st_irem, st_ladd, st_lsub, st_lmul, st_lor, st_land, st_ldiv, st_lshl, st_lcmp, st_i2l, st_i2b, st_l2i, st_i2c, st_iconst, st_bipush, st_sipush, st_lconst, st_ldc2_w, st_ldc_w, st_ldcI, st_ldcS, st_iload, st_iload_n, st_lload, st_lload_n, st_aload, st_aload_n, st_istore, st_istore_n, st_lstore, st_lstore_n, st_astore, st_astore_n, st_iinc, st_dup, st_pop, st_dup2, st_ifCond, st_if_icmp, st_goto, st_getI, st_getL, st_getR, st_putI, st_putL, st_putR, st_putZ, st_sval, st_scod, st_baload, st_baloadS, st_alen, st_alenS, st_gets1, st_getsF, st_iaload, st_laload, st_aaload, st_iastore, st_lastore, st_bastoreB, st_bastoreZ, st_aastore, st_iret, st_zret, st_cret, st_bret, st_return_, st_areturn, st_invV, st_invVS, st_invS, st_invI, st_min, st_max, st_obj, st_new, st_newarray, st_anewarray, st_multianewarray, st_table, st_lookup, pI_c, pL_c, pR_c, p1_i, p1_r, p1_n, iI_0, iI_s, iL_0, iL_s, iR_0, iR_s, rfV_s, kc_c, kl_c, cats_0, cats_i, cats_l, cats_r, rcv_c, rcvS_c, isRefA_c, cl_0, cl_1, cl_2, cl_3, cl_4, cl_5, cl_6, cl_7, set1_0, set1_1i, set1_1r, set1_1n, set1_s, set2_s, set2_1i, set2_1r, set2_1n, toL_s, toL_n, cnd, and_self, true_and, and_true, true_or, or_true, List.contains_nil, List.contains_cons, Bool.or_false, beq_iff_eq, Nat.reduceBEq, Nat.reduceEqDiff, Nat.reduceAdd, Nat.reduceLeDiff, Nat.reduceSub, Bool.false_eq_true, if_false, if_true, Nat.zero_le, Nat.add_zero, Nat.zero_add, Nat.le_refl, gN_sI, gN_sL, gN_sR, gR_sI, gR_sL, gR_sR, @lit_add 9999, @lit_mul 9999, hd0]
  repeat' first
    | exact vp_in_nI (by omega) (by omega)
    | (refine C_X10_in ?_; (simp (decide := true) only [st_iadd, st_isub, st_imul, st_iand, st_ior, st_ishl, st_ishr, st_idiv, st_irem, st_ladd, st_lsub, st_lmul, st_lor, st_land, st_ldiv, st_lshl, st_lcmp, st_i2l, st_i2b, st_l2i, st_i2c, st_iconst, st_bipush, st_sipush, st_lconst, st_ldc2_w, st_ldc_w, st_ldcI, st_ldcS, st_iload, st_iload_n, st_lload, st_lload_n, st_aload, st_aload_n, st_istore, st_istore_n, st_lstore, st_lstore_n, st_astore, st_astore_n, st_iinc, st_dup, st_pop, st_dup2, st_ifCond, st_if_icmp, st_goto, st_getI, st_getL, st_getR, st_putI, st_putL, st_putR, st_putZ, st_sval, st_scod, st_baload, st_baloadS, st_alen, st_alenS, st_gets1, st_getsF, st_iaload, st_laload, st_aaload, st_iastore, st_lastore, st_bastoreB, st_bastoreZ, st_aastore, st_iret, st_zret, st_cret, st_bret, st_return_, st_areturn, st_invV, st_invVS, st_invS, st_invI, st_min, st_max, st_obj, st_new, st_newarray, st_anewarray, st_multianewarray, st_table, st_lookup, pI_c, pL_c, pR_c, p1_i, p1_r, p1_n, iI_0, iI_s, iL_0, iL_s, iR_0, iR_s, rfV_s, kc_c, kl_c, cats_0, cats_i, cats_l, cats_r, rcv_c, rcvS_c, isRefA_c, cl_0, cl_1, cl_2, cl_3, cl_4, cl_5, cl_6, cl_7, set1_0, set1_1i, set1_1r, set1_1n, set1_s, set2_s, set2_1i, set2_1r, set2_1n, toL_s, toL_n, cnd, and_self, true_and, and_true, true_or, or_true, List.contains_nil, List.contains_cons, Bool.or_false, beq_iff_eq, Nat.reduceBEq, Nat.reduceEqDiff, Nat.reduceAdd, Nat.reduceLeDiff, Nat.reduceSub, Bool.false_eq_true, if_false, if_true, Nat.zero_le, Nat.add_zero, Nat.zero_add, Nat.le_refl, gN_sI, gN_sL, gN_sR, gR_sI, gR_sL, gR_sR, @lit_add 9999, @lit_mul 9999, hd0]; try simp (decide := true) only [cats_0, cats_i, cats_r, cats_l, bI_0, bI_1, bI_01, true_and, and_true, and_self, Nat.zero_le, Nat.reduceAdd, Nat.reduceLeDiff]))
    | refine ⟨?_, ?_⟩
    | (show _ → _; intro _)
  all_goals first | exact h | rfl | grind [cats_0, bI]
set_option maxRecDepth 10000 in
theorem C_X10_flaw {w : Int32} (hR : RefAt σ) (h : Rt none (sI (if gI σ 89 10 = 0 then sI σ 89 10 w else σ) 89 7 0)) : Con d q_X10_flaw 0 0 [.ref 89, .int w] σ Rt := by
  have hR0 := hR
  obtain ⟨hN, rtp, rx, rrd, rnm, rtk, row, rtm, rpd, rnt, rtn, rst, rwt, rgt, rlg, rlw, rlt⟩ := hR
  have h89 : 89 < gN σ := by omega
  have h90 : 90 < gN σ := by omega
  have h91 : 91 < gN σ := by omega
  have h92 : 92 < gN σ := by omega
  have h93 : 93 < gN σ := by omega
  have h94 : 94 < gN σ := by omega
  have h95 : 95 < gN σ := by omega
  have h96 : 96 < gN σ := by omega
  have h97 : 97 < gN σ := by omega
  have h98 : 98 < gN σ := by omega
  have h99 : 99 < gN σ := by omega
  have h100 : 100 < gN σ := by omega
  have h101 : 101 < gN σ := by omega
  have h102 : 102 < gN σ := by omega
  have h103 : 103 < gN σ := by omega
  have h104 : 104 < gN σ := by omega
  have h105 : 105 < gN σ := by omega
  refine Con_of_X (ls := [.ref 89, .int w]) rfl (Nat.le_of_ble_eq_true rfl) rfl ?_
  refine X_wp [] ck_X10_flaw 12 ?_
  simp (decide := true) only [wp_s e_X10_flaw_0, wp_s e_X10_flaw_1, wp_s e_X10_flaw_4, wp_s e_X10_flaw_7, wp_s e_X10_flaw_8, wp_s e_X10_flaw_9, wp_s e_X10_flaw_12, wp_s e_X10_flaw_13, wp_s e_X10_flaw_14, wp_s e_X10_flaw_17, st_iadd, st_isub, st_imul, st_iand, st_ior, st_ishl, st_ishr, st_idiv, st_irem, st_ladd, st_lsub, st_lmul, st_lor, st_land, st_ldiv, st_lshl, st_lcmp, st_i2l, st_i2b, st_l2i, st_i2c, st_iconst, st_bipush, st_sipush, st_lconst, st_ldc2_w, st_ldc_w, st_ldcI, st_ldcS, st_iload, st_iload_n, st_lload, st_lload_n, st_aload, st_aload_n, st_istore, st_istore_n, st_lstore, st_lstore_n, st_astore, st_astore_n, st_iinc, st_dup, st_pop, st_dup2, st_ifCond, st_if_icmp, st_goto, st_getI, st_getL, st_getR, st_putI, st_putL, st_putR, st_putZ, st_sval, st_scod, st_baload, st_baloadS, st_alen, st_alenS, st_gets1, st_getsF, st_iaload, st_laload, st_aaload, st_iastore, st_lastore, st_bastoreB, st_bastoreZ, st_aastore, st_iret, st_zret, st_cret, st_bret, st_return_, st_areturn, st_invV, st_invVS, st_invS, st_invI, st_min, st_max, st_obj, st_new, st_newarray, st_anewarray, st_multianewarray, st_table, st_lookup, pI_c, pL_c, pR_c, p1_i, p1_r, p1_n, iI_0, iI_s, iL_0, iL_s, iR_0, iR_s, rfV_s, kc_c, kl_c, cats_0, cats_i, cats_l, cats_r, rcv_c, rcvS_c, isRefA_c, cl_0, cl_1, cl_2, cl_3, cl_4, cl_5, cl_6, cl_7, set1_0, set1_1i, set1_1r, set1_1n, set1_s, set2_s, set2_1i, set2_1r, set2_1n, toL_s, toL_n, cnd, and_self, true_and, and_true, true_or, or_true, List.contains_nil, List.contains_cons, Bool.or_false, beq_iff_eq, Nat.reduceBEq, Nat.reduceEqDiff, Nat.reduceAdd, Nat.reduceLeDiff, Nat.reduceSub, Bool.false_eq_true, if_false, if_true, Nat.zero_le, Nat.add_zero, Nat.zero_add, Nat.le_refl, gN_sI, gN_sL, gN_sR, gR_sI, gR_sL, gR_sR, rtp, rx, rrd, rnm, rtk, row, rtm, rpd, rnt, rtn, rst, rwt, rgt, rlg, rlw, rlt, sh_89, sh_90, sh_91, sh_92, sh_93, sh_94, sh_95, sh_96, sh_97, sh_98, sh_99, sh_100, sh_101, sh_102, sh_103, sh_104, sh_105, h89, h90, h91, h92, h93, h94, h95, h96, h97, h98, h99, h100, h101, h102, h103, h104, h105, nI_add, vx0, vx1, vx2, vx3, vx4, vx5, cx0, cx1, cx2, cx3, cx4, cx5]
  repeat' first
    | exact vp_in_nI (by omega) (by omega)
    | refine ⟨?_, ?_⟩
    | (show _ → _; intro _)
  all_goals first | exact h | rfl | grind [cats_0, bI]
set_option maxRecDepth 10000 in
theorem C_X10_restOf (hR : RefAt σ) (ht : t = 0 ∨ t = 6) (ho : o < 6) (h : Rt (some (.int (rRest σ t o))) σ) : Con d q_X10_restOf 0 0 [.ref 89, .int (nI t), .int (nI o)] σ Rt := by
  have hR0 := hR
  obtain ⟨hN, rtp, rx, rrd, rnm, rtk, row, rtm, rpd, rnt, rtn, rst, rwt, rgt, rlg, rlw, rlt⟩ := hR
  have h89 : 89 < gN σ := by omega
  have h90 : 90 < gN σ := by omega
  have h91 : 91 < gN σ := by omega
  have h92 : 92 < gN σ := by omega
  have h93 : 93 < gN σ := by omega
  have h94 : 94 < gN σ := by omega
  have h95 : 95 < gN σ := by omega
  have h96 : 96 < gN σ := by omega
  have h97 : 97 < gN σ := by omega
  have h98 : 98 < gN σ := by omega
  have h99 : 99 < gN σ := by omega
  have h100 : 100 < gN σ := by omega
  have h101 : 101 < gN σ := by omega
  have h102 : 102 < gN σ := by omega
  have h103 : 103 < gN σ := by omega
  have h104 : 104 < gN σ := by omega
  have h105 : 105 < gN σ := by omega
  have hc0 : (nI (63 + o)).toNatClampNeg = 63 + o := nI_clamp (by omega)
  have hc1 : (nI (t + o)).toNatClampNeg = t + o := nI_clamp (by omega)
  refine Con_of_X (ls := [.ref 89, .int (nI t), .int (nI o)]) rfl (Nat.le_of_ble_eq_true rfl) rfl ?_
  refine X_wp [] ck_X10_restOf 25 ?_
  simp (decide := true) only [wp_s e_X10_restOf_0, wp_s e_X10_restOf_1, wp_s e_X10_restOf_4, wp_s e_X10_restOf_6, wp_s e_X10_restOf_7, wp_s e_X10_restOf_8, wp_s e_X10_restOf_9, wp_s e_X10_restOf_12, wp_s e_X10_restOf_14, wp_s e_X10_restOf_17, wp_s e_X10_restOf_18, wp_s e_X10_restOf_21, wp_s e_X10_restOf_23, wp_s e_X10_restOf_24, wp_s e_X10_restOf_25, wp_s e_X10_restOf_26, wp_s e_X10_restOf_27, wp_s e_X10_restOf_30, wp_s e_X10_restOf_31, wp_s e_X10_restOf_32, wp_s e_X10_restOf_33, wp_s e_X10_restOf_34, wp_s e_X10_restOf_35, st_iadd, st_isub, st_imul, st_iand, st_ior, st_ishl, st_ishr, st_idiv, st_irem, st_ladd, st_lsub, st_lmul, st_lor, st_land, st_ldiv, st_lshl, st_lcmp, st_i2l, st_i2b, st_l2i, st_i2c, st_iconst, st_bipush, st_sipush, st_lconst, st_ldc2_w, st_ldc_w, st_ldcI, st_ldcS, st_iload, st_iload_n, st_lload, st_lload_n, st_aload, st_aload_n, st_istore, st_istore_n, st_lstore, st_lstore_n, st_astore, st_astore_n, st_iinc, st_dup, st_pop, st_dup2, st_ifCond, st_if_icmp, st_goto, st_getI, st_getL, st_getR, st_putI, st_putL, st_putR, st_putZ, st_sval, st_scod, st_baload, st_baloadS, st_alen, st_alenS, st_gets1, st_getsF, st_iaload, st_laload, st_aaload, st_iastore, st_lastore, st_bastoreB, st_bastoreZ, st_aastore, st_iret, st_zret, st_cret, st_bret, st_return_, st_areturn, st_invV, st_invVS, st_invS, st_invI, st_min, st_max, st_obj, st_new, st_newarray, st_anewarray, st_multianewarray, st_table, st_lookup, pI_c, pL_c, pR_c, p1_i, p1_r, p1_n, iI_0, iI_s, iL_0, iL_s, iR_0, iR_s, rfV_s, kc_c, kl_c, cats_0, cats_i, cats_l, cats_r, rcv_c, rcvS_c, isRefA_c, cl_0, cl_1, cl_2, cl_3, cl_4, cl_5, cl_6, cl_7, set1_0, set1_1i, set1_1r, set1_1n, set1_s, set2_s, set2_1i, set2_1r, set2_1n, toL_s, toL_n, cnd, and_self, true_and, and_true, true_or, or_true, List.contains_nil, List.contains_cons, Bool.or_false, beq_iff_eq, Nat.reduceBEq, Nat.reduceEqDiff, Nat.reduceAdd, Nat.reduceLeDiff, Nat.reduceSub, Bool.false_eq_true, if_false, if_true, Nat.zero_le, Nat.add_zero, Nat.zero_add, Nat.le_refl, gN_sI, gN_sL, gN_sR, gR_sI, gR_sL, gR_sR, rtp, rx, rrd, rnm, rtk, row, rtm, rpd, rnt, rtn, rst, rwt, rgt, rlg, rlw, rlt, sh_89, sh_90, sh_91, sh_92, sh_93, sh_94, sh_95, sh_96, sh_97, sh_98, sh_99, sh_100, sh_101, sh_102, sh_103, sh_104, sh_105, h89, h90, h91, h92, h93, h94, h95, h96, h97, h98, h99, h100, h101, h102, h103, h104, h105, nI_add, vx0, vx1, vx2, vx3, vx4, vx5, cx0, cx1, cx2, cx3, cx4, cx5, hc0, hc1, @lit_add 63, @lit_mul 63]
  repeat' first
    | exact vp_in_nI (by omega) (by omega)
    | refine ⟨?_, ?_⟩
    | (show _ → _; intro _)
  all_goals first | exact h | rfl | grind [cats_0, rRest]
set_option maxRecDepth 10000 in
theorem C_X10_isLive (hd : 1 ≤ d) (hR : RefAt σ) (ht : t = 0 ∨ t = 6) (ho : o < 6) (h : Rt (some (.int (bI (rLive σ t o)))) σ) : Con d q_X10_isLive 0 0 [.ref 89, .int (nI t), .int (nI o)] σ Rt := by
  have hR0 := hR
  obtain ⟨hN, rtp, rx, rrd, rnm, rtk, row, rtm, rpd, rnt, rtn, rst, rwt, rgt, rlg, rlw, rlt⟩ := hR
  have h89 : 89 < gN σ := by omega
  have h90 : 90 < gN σ := by omega
  have h91 : 91 < gN σ := by omega
  have h92 : 92 < gN σ := by omega
  have h93 : 93 < gN σ := by omega
  have h94 : 94 < gN σ := by omega
  have h95 : 95 < gN σ := by omega
  have h96 : 96 < gN σ := by omega
  have h97 : 97 < gN σ := by omega
  have h98 : 98 < gN σ := by omega
  have h99 : 99 < gN σ := by omega
  have h100 : 100 < gN σ := by omega
  have h101 : 101 < gN σ := by omega
  have h102 : 102 < gN σ := by omega
  have h103 : 103 < gN σ := by omega
  have h104 : 104 < gN σ := by omega
  have h105 : 105 < gN σ := by omega
  have hd0 : 0 < d := by omega
  have hc0 : (nI (o)).toNatClampNeg = o := nI_clamp (by omega)
  refine Con_of_X (ls := [.ref 89, .int (nI t), .int (nI o)]) rfl (Nat.le_of_ble_eq_true rfl) rfl ?_
  refine X_wp [] ck_X10_isLive 16 ?_
  simp (decide := true) only [wp_s e_X10_isLive_0, wp_s e_X10_isLive_1, wp_s e_X10_isLive_4, wp_s e_X10_isLive_5, wp_s e_X10_isLive_6, wp_s e_X10_isLive_9, wp_s e_X10_isLive_10, wp_s e_X10_isLive_11, wp_s e_X10_isLive_12, wp_s e_X10_isLive_15, wp_s e_X10_isLive_18, wp_s e_X10_isLive_19, wp_s e_X10_isLive_22, wp_s e_X10_isLive_23, st_iadd, st_isub, st_imul, st_iand, st_ior, st_ishl, st_ishr, st_idiv, st_irem, st_ladd, st_lsub, st_lmul, st_lor, st_land, st_ldiv, st_lshl, st_lcmp, st_i2l, st_i2b, st_l2i, st_i2c, st_iconst, st_bipush, st_sipush, st_lconst, st_ldc2_w, st_ldc_w, st_ldcI, st_ldcS, st_iload, st_iload_n, st_lload, st_lload_n, st_aload, st_aload_n, st_istore, st_istore_n, st_lstore, st_lstore_n, st_astore, st_astore_n, st_iinc, st_dup, st_pop, st_dup2, st_ifCond, st_if_icmp, st_goto, st_getI, st_getL, st_getR, st_putI, st_putL, st_putR, st_putZ, st_sval, st_scod, st_baload, st_baloadS, st_alen, st_alenS, st_gets1, st_getsF, st_iaload, st_laload, st_aaload, st_iastore, st_lastore, st_bastoreB, st_bastoreZ, st_aastore, st_iret, st_zret, st_cret, st_bret, st_return_, st_areturn, st_invV, st_invVS, st_invS, st_invI, st_min, st_max, st_obj, st_new, st_newarray, st_anewarray, st_multianewarray, st_table, st_lookup, pI_c, pL_c, pR_c, p1_i, p1_r, p1_n, iI_0, iI_s, iL_0, iL_s, iR_0, iR_s, rfV_s, kc_c, kl_c, cats_0, cats_i, cats_l, cats_r, rcv_c, rcvS_c, isRefA_c, cl_0, cl_1, cl_2, cl_3, cl_4, cl_5, cl_6, cl_7, set1_0, set1_1i, set1_1r, set1_1n, set1_s, set2_s, set2_1i, set2_1r, set2_1n, toL_s, toL_n, cnd, and_self, true_and, and_true, true_or, or_true, List.contains_nil, List.contains_cons, Bool.or_false, beq_iff_eq, Nat.reduceBEq, Nat.reduceEqDiff, Nat.reduceAdd, Nat.reduceLeDiff, Nat.reduceSub, Bool.false_eq_true, if_false, if_true, Nat.zero_le, Nat.add_zero, Nat.zero_add, Nat.le_refl, gN_sI, gN_sL, gN_sR, gR_sI, gR_sL, gR_sR, rtp, rx, rrd, rnm, rtk, row, rtm, rpd, rnt, rtn, rst, rwt, rgt, rlg, rlw, rlt, sh_89, sh_90, sh_91, sh_92, sh_93, sh_94, sh_95, sh_96, sh_97, sh_98, sh_99, sh_100, sh_101, sh_102, sh_103, sh_104, sh_105, h89, h90, h91, h92, h93, h94, h95, h96, h97, h98, h99, h100, h101, h102, h103, h104, h105, nI_add, vx0, vx1, vx2, vx3, vx4, vx5, cx0, cx1, cx2, cx3, cx4, cx5, hc0, @lit_add 1, hd0]
  repeat' first
    | exact vp_in_nI (by omega) (by omega)
    | (refine C_X10_restOf hR0 ht ho ?_; (simp (decide := true) only [st_iadd, st_isub, st_imul, st_iand, st_ior, st_ishl, st_ishr, st_idiv, st_irem, st_ladd, st_lsub, st_lmul, st_lor, st_land, st_ldiv, st_lshl, st_lcmp, st_i2l, st_i2b, st_l2i, st_i2c, st_iconst, st_bipush, st_sipush, st_lconst, st_ldc2_w, st_ldc_w, st_ldcI, st_ldcS, st_iload, st_iload_n, st_lload, st_lload_n, st_aload, st_aload_n, st_istore, st_istore_n, st_lstore, st_lstore_n, st_astore, st_astore_n, st_iinc, st_dup, st_pop, st_dup2, st_ifCond, st_if_icmp, st_goto, st_getI, st_getL, st_getR, st_putI, st_putL, st_putR, st_putZ, st_sval, st_scod, st_baload, st_baloadS, st_alen, st_alenS, st_gets1, st_getsF, st_iaload, st_laload, st_aaload, st_iastore, st_lastore, st_bastoreB, st_bastoreZ, st_aastore, st_iret, st_zret, st_cret, st_bret, st_return_, st_areturn, st_invV, st_invVS, st_invS, st_invI, st_min, st_max, st_obj, st_new, st_newarray, st_anewarray, st_multianewarray, st_table, st_lookup, pI_c, pL_c, pR_c, p1_i, p1_r, p1_n, iI_0, iI_s, iL_0, iL_s, iR_0, iR_s, rfV_s, kc_c, kl_c, cats_0, cats_i, cats_l, cats_r, rcv_c, rcvS_c, isRefA_c, cl_0, cl_1, cl_2, cl_3, cl_4, cl_5, cl_6, cl_7, set1_0, set1_1i, set1_1r, set1_1n, set1_s, set2_s, set2_1i, set2_1r, set2_1n, toL_s, toL_n, cnd, and_self, true_and, and_true, true_or, or_true, List.contains_nil, List.contains_cons, Bool.or_false, beq_iff_eq, Nat.reduceBEq, Nat.reduceEqDiff, Nat.reduceAdd, Nat.reduceLeDiff, Nat.reduceSub, Bool.false_eq_true, if_false, if_true, Nat.zero_le, Nat.add_zero, Nat.zero_add, Nat.le_refl, gN_sI, gN_sL, gN_sR, gR_sI, gR_sL, gR_sR, rtp, rx, rrd, rnm, rtk, row, rtm, rpd, rnt, rtn, rst, rwt, rgt, rlg, rlw, rlt, sh_89, sh_90, sh_91, sh_92, sh_93, sh_94, sh_95, sh_96, sh_97, sh_98, sh_99, sh_100, sh_101, sh_102, sh_103, sh_104, sh_105, h89, h90, h91, h92, h93, h94, h95, h96, h97, h98, h99, h100, h101, h102, h103, h104, h105, nI_add, vx0, vx1, vx2, vx3, vx4, vx5, cx0, cx1, cx2, cx3, cx4, cx5, hc0, @lit_add 1, hd0]; try simp (decide := true) only [cats_0, cats_i, cats_r, cats_l, bI_0, bI_1, bI_01, true_and, and_true, and_self, Nat.zero_le, Nat.reduceAdd, Nat.reduceLeDiff]))
    | refine ⟨?_, ?_⟩
    | (show _ → _; intro _)
  all_goals first | exact h | rfl | grind [cats_0, bI, rLive]
set_option maxRecDepth 10000 in
theorem C_X10_isAt {q : Int32} (hR : RefAt σ) (ho : o < 6) (h : Rt (some (.int (bI (rAt σ o q)))) σ) : Con d q_X10_isAt 0 0 [.ref 89, .int (nI o), .int q] σ Rt := by
  have hR0 := hR
  obtain ⟨hN, rtp, rx, rrd, rnm, rtk, row, rtm, rpd, rnt, rtn, rst, rwt, rgt, rlg, rlw, rlt⟩ := hR
  have h89 : 89 < gN σ := by omega
  have h90 : 90 < gN σ := by omega
  have h91 : 91 < gN σ := by omega
  have h92 : 92 < gN σ := by omega
  have h93 : 93 < gN σ := by omega
  have h94 : 94 < gN σ := by omega
  have h95 : 95 < gN σ := by omega
  have h96 : 96 < gN σ := by omega
  have h97 : 97 < gN σ := by omega
  have h98 : 98 < gN σ := by omega
  have h99 : 99 < gN σ := by omega
  have h100 : 100 < gN σ := by omega
  have h101 : 101 < gN σ := by omega
  have h102 : 102 < gN σ := by omega
  have h103 : 103 < gN σ := by omega
  have h104 : 104 < gN σ := by omega
  have h105 : 105 < gN σ := by omega
  have hc0 : (nI (81 + o)).toNatClampNeg = 81 + o := nI_clamp (by omega)
  refine Con_of_X (ls := [.ref 89, .int (nI o), .int q]) rfl (Nat.le_of_ble_eq_true rfl) rfl ?_
  refine X_wp [] ck_X10_isAt 18 ?_
  simp (decide := true) only [wp_s e_X10_isAt_0, wp_s e_X10_isAt_1, wp_s e_X10_isAt_4, wp_s e_X10_isAt_6, wp_s e_X10_isAt_7, wp_s e_X10_isAt_8, wp_s e_X10_isAt_9, wp_s e_X10_isAt_10, wp_s e_X10_isAt_11, wp_s e_X10_isAt_12, wp_s e_X10_isAt_13, wp_s e_X10_isAt_14, wp_s e_X10_isAt_17, wp_s e_X10_isAt_18, wp_s e_X10_isAt_21, wp_s e_X10_isAt_22, st_iadd, st_isub, st_imul, st_iand, st_ior, st_ishl, st_ishr, st_idiv, st_irem, st_ladd, st_lsub, st_lmul, st_lor, st_land, st_ldiv, st_lshl, st_lcmp, st_i2l, st_i2b, st_l2i, st_i2c, st_iconst, st_bipush, st_sipush, st_lconst, st_ldc2_w, st_ldc_w, st_ldcI, st_ldcS, st_iload, st_iload_n, st_lload, st_lload_n, st_aload, st_aload_n, st_istore, st_istore_n, st_lstore, st_lstore_n, st_astore, st_astore_n, st_iinc, st_dup, st_pop, st_dup2, st_ifCond, st_if_icmp, st_goto, st_getI, st_getL, st_getR, st_putI, st_putL, st_putR, st_putZ, st_sval, st_scod, st_baload, st_baloadS, st_alen, st_alenS, st_gets1, st_getsF, st_iaload, st_laload, st_aaload, st_iastore, st_lastore, st_bastoreB, st_bastoreZ, st_aastore, st_iret, st_zret, st_cret, st_bret, st_return_, st_areturn, st_invV, st_invVS, st_invS, st_invI, st_min, st_max, st_obj, st_new, st_newarray, st_anewarray, st_multianewarray, st_table, st_lookup, pI_c, pL_c, pR_c, p1_i, p1_r, p1_n, iI_0, iI_s, iL_0, iL_s, iR_0, iR_s, rfV_s, kc_c, kl_c, cats_0, cats_i, cats_l, cats_r, rcv_c, rcvS_c, isRefA_c, cl_0, cl_1, cl_2, cl_3, cl_4, cl_5, cl_6, cl_7, set1_0, set1_1i, set1_1r, set1_1n, set1_s, set2_s, set2_1i, set2_1r, set2_1n, toL_s, toL_n, cnd, and_self, true_and, and_true, true_or, or_true, List.contains_nil, List.contains_cons, Bool.or_false, beq_iff_eq, Nat.reduceBEq, Nat.reduceEqDiff, Nat.reduceAdd, Nat.reduceLeDiff, Nat.reduceSub, Bool.false_eq_true, if_false, if_true, Nat.zero_le, Nat.add_zero, Nat.zero_add, Nat.le_refl, gN_sI, gN_sL, gN_sR, gR_sI, gR_sL, gR_sR, rtp, rx, rrd, rnm, rtk, row, rtm, rpd, rnt, rtn, rst, rwt, rgt, rlg, rlw, rlt, sh_89, sh_90, sh_91, sh_92, sh_93, sh_94, sh_95, sh_96, sh_97, sh_98, sh_99, sh_100, sh_101, sh_102, sh_103, sh_104, sh_105, h89, h90, h91, h92, h93, h94, h95, h96, h97, h98, h99, h100, h101, h102, h103, h104, h105, nI_add, vx0, vx1, vx2, vx3, vx4, vx5, cx0, cx1, cx2, cx3, cx4, cx5, hc0, @lit_add 1, @lit_add 81, @lit_mul 81]
  repeat' first
    | exact vp_in_nI (by omega) (by omega)
    | refine ⟨?_, ?_⟩
    | (show _ → _; intro _)
  all_goals first | exact h | rfl | grind [cats_0, bI, rAt]
set_option maxRecDepth 10000 in
theorem C_X10_floorOf {net : Int32} (hd : 1 ≤ d) (hR : RefAt σ) (hp : p < 3) (h : Rt (some (.int (rFloor σ p net))) σ) : Con d q_X10_floorOf 0 0 [.ref 89, .int (nI p), .int net] σ Rt := by
  have hR0 := hR
  obtain ⟨hN, rtp, rx, rrd, rnm, rtk, row, rtm, rpd, rnt, rtn, rst, rwt, rgt, rlg, rlw, rlt⟩ := hR
  have h89 : 89 < gN σ := by omega
  have h90 : 90 < gN σ := by omega
  have h91 : 91 < gN σ := by omega
  have h92 : 92 < gN σ := by omega
  have h93 : 93 < gN σ := by omega
  have h94 : 94 < gN σ := by omega
  have h95 : 95 < gN σ := by omega
  have h96 : 96 < gN σ := by omega
  have h97 : 97 < gN σ := by omega
  have h98 : 98 < gN σ := by omega
  have h99 : 99 < gN σ := by omega
  have h100 : 100 < gN σ := by omega
  have h101 : 101 < gN σ := by omega
  have h102 : 102 < gN σ := by omega
  have h103 : 103 < gN σ := by omega
  have h104 : 104 < gN σ := by omega
  have h105 : 105 < gN σ := by omega
  have hd0 : 0 < d := by omega
  have hc0 : (nI (48 + p)).toNatClampNeg = 48 + p := nI_clamp (by omega)
  refine Con_of_X (ls := [.ref 89, .int (nI p), .int net]) rfl (Nat.le_of_ble_eq_true rfl) rfl ?_
  refine X_wp [] ck_X10_floorOf 25 ?_
  simp (decide := true) only [wp_s e_X10_floorOf_0, wp_s e_X10_floorOf_1, wp_s e_X10_floorOf_4, wp_s e_X10_floorOf_5, wp_s e_X10_floorOf_6, wp_s e_X10_floorOf_7, wp_s e_X10_floorOf_10, wp_s e_X10_floorOf_12, wp_s e_X10_floorOf_13, wp_s e_X10_floorOf_14, wp_s e_X10_floorOf_15, wp_s e_X10_floorOf_16, wp_s e_X10_floorOf_17, wp_s e_X10_floorOf_20, wp_s e_X10_floorOf_21, wp_s e_X10_floorOf_22, wp_s e_X10_floorOf_23, wp_s e_X10_floorOf_24, wp_s e_X10_floorOf_26, wp_s e_X10_floorOf_27, wp_s e_X10_floorOf_29, wp_s e_X10_floorOf_30, wp_s e_X10_floorOf_33, st_iadd, st_isub, st_imul, st_iand, st_ior, st_ishl, st_ishr, st_idiv, st_irem, st_ladd, st_lsub, st_lmul, st_lor, st_land, st_ldiv, st_lshl, st_lcmp, st_i2l, st_i2b, st_l2i, st_i2c, st_iconst, st_bipush, st_sipush, st_lconst, st_ldc2_w, st_ldc_w, st_ldcI, st_ldcS, st_iload, st_iload_n, st_lload, st_lload_n, st_aload, st_aload_n, st_istore, st_istore_n, st_lstore, st_lstore_n, st_astore, st_astore_n, st_iinc, st_dup, st_pop, st_dup2, st_ifCond, st_if_icmp, st_goto, st_getI, st_getL, st_getR, st_putI, st_putL, st_putR, st_putZ, st_sval, st_scod, st_baload, st_baloadS, st_alen, st_alenS, st_gets1, st_getsF, st_iaload, st_laload, st_aaload, st_iastore, st_lastore, st_bastoreB, st_bastoreZ, st_aastore, st_iret, st_zret, st_cret, st_bret, st_return_, st_areturn, st_invV, st_invVS, st_invS, st_invI, st_min, st_max, st_obj, st_new, st_newarray, st_anewarray, st_multianewarray, st_table, st_lookup, pI_c, pL_c, pR_c, p1_i, p1_r, p1_n, iI_0, iI_s, iL_0, iL_s, iR_0, iR_s, rfV_s, kc_c, kl_c, cats_0, cats_i, cats_l, cats_r, rcv_c, rcvS_c, isRefA_c, cl_0, cl_1, cl_2, cl_3, cl_4, cl_5, cl_6, cl_7, set1_0, set1_1i, set1_1r, set1_1n, set1_s, set2_s, set2_1i, set2_1r, set2_1n, toL_s, toL_n, cnd, and_self, true_and, and_true, true_or, or_true, List.contains_nil, List.contains_cons, Bool.or_false, beq_iff_eq, Nat.reduceBEq, Nat.reduceEqDiff, Nat.reduceAdd, Nat.reduceLeDiff, Nat.reduceSub, Bool.false_eq_true, if_false, if_true, Nat.zero_le, Nat.add_zero, Nat.zero_add, Nat.le_refl, gN_sI, gN_sL, gN_sR, gR_sI, gR_sL, gR_sR, rtp, rx, rrd, rnm, rtk, row, rtm, rpd, rnt, rtn, rst, rwt, rgt, rlg, rlw, rlt, sh_89, sh_90, sh_91, sh_92, sh_93, sh_94, sh_95, sh_96, sh_97, sh_98, sh_99, sh_100, sh_101, sh_102, sh_103, sh_104, sh_105, h89, h90, h91, h92, h93, h94, h95, h96, h97, h98, h99, h100, h101, h102, h103, h104, h105, nI_add, vx0, vx1, vx2, vx3, vx4, vx5, cx0, cx1, cx2, cx3, cx4, cx5, hc0, @lit_add 1, @lit_add 48, @lit_add 99, @lit_add 100, @lit_mul 48, @lit_mul 99, @lit_mul 100, hd0]
  repeat' first
    | exact vp_in_nI (by omega) (by omega)
    | (refine C_X10_greater ?_; (simp (decide := true) only [st_iadd, st_isub, st_imul, st_iand, st_ior, st_ishl, st_ishr, st_idiv, st_irem, st_ladd, st_lsub, st_lmul, st_lor, st_land, st_ldiv, st_lshl, st_lcmp, st_i2l, st_i2b, st_l2i, st_i2c, st_iconst, st_bipush, st_sipush, st_lconst, st_ldc2_w, st_ldc_w, st_ldcI, st_ldcS, st_iload, st_iload_n, st_lload, st_lload_n, st_aload, st_aload_n, st_istore, st_istore_n, st_lstore, st_lstore_n, st_astore, st_astore_n, st_iinc, st_dup, st_pop, st_dup2, st_ifCond, st_if_icmp, st_goto, st_getI, st_getL, st_getR, st_putI, st_putL, st_putR, st_putZ, st_sval, st_scod, st_baload, st_baloadS, st_alen, st_alenS, st_gets1, st_getsF, st_iaload, st_laload, st_aaload, st_iastore, st_lastore, st_bastoreB, st_bastoreZ, st_aastore, st_iret, st_zret, st_cret, st_bret, st_return_, st_areturn, st_invV, st_invVS, st_invS, st_invI, st_min, st_max, st_obj, st_new, st_newarray, st_anewarray, st_multianewarray, st_table, st_lookup, pI_c, pL_c, pR_c, p1_i, p1_r, p1_n, iI_0, iI_s, iL_0, iL_s, iR_0, iR_s, rfV_s, kc_c, kl_c, cats_0, cats_i, cats_l, cats_r, rcv_c, rcvS_c, isRefA_c, cl_0, cl_1, cl_2, cl_3, cl_4, cl_5, cl_6, cl_7, set1_0, set1_1i, set1_1r, set1_1n, set1_s, set2_s, set2_1i, set2_1r, set2_1n, toL_s, toL_n, cnd, and_self, true_and, and_true, true_or, or_true, List.contains_nil, List.contains_cons, Bool.or_false, beq_iff_eq, Nat.reduceBEq, Nat.reduceEqDiff, Nat.reduceAdd, Nat.reduceLeDiff, Nat.reduceSub, Bool.false_eq_true, if_false, if_true, Nat.zero_le, Nat.add_zero, Nat.zero_add, Nat.le_refl, gN_sI, gN_sL, gN_sR, gR_sI, gR_sL, gR_sR, rtp, rx, rrd, rnm, rtk, row, rtm, rpd, rnt, rtn, rst, rwt, rgt, rlg, rlw, rlt, sh_89, sh_90, sh_91, sh_92, sh_93, sh_94, sh_95, sh_96, sh_97, sh_98, sh_99, sh_100, sh_101, sh_102, sh_103, sh_104, sh_105, h89, h90, h91, h92, h93, h94, h95, h96, h97, h98, h99, h100, h101, h102, h103, h104, h105, nI_add, vx0, vx1, vx2, vx3, vx4, vx5, cx0, cx1, cx2, cx3, cx4, cx5, hc0, @lit_add 1, @lit_add 48, @lit_add 99, @lit_add 100, @lit_mul 48, @lit_mul 99, @lit_mul 100, hd0]; try simp (decide := true) only [cats_0, cats_i, cats_r, cats_l, bI_0, bI_1, bI_01, true_and, and_true, and_self, Nat.zero_le, Nat.reduceAdd, Nat.reduceLeDiff]))
    | refine ⟨?_, ?_⟩
    | (show _ → _; intro _)
  all_goals first | exact h | rfl | grind [cats_0, rFloor]
set_option maxRecDepth 10000 in
theorem C_X10_ownFloorOf {net : Int32} (hd : 2 ≤ d) (hR : RefAt σ) (ho : o < 6) (hp : p < 3) (h : Rt (some (.int (rOwn σ o p net))) σ) : Con d q_X10_ownFloorOf 0 0 [.ref 89, .int (nI o), .int (nI p), .int net] σ Rt := by
  have hR0 := hR
  obtain ⟨hN, rtp, rx, rrd, rnm, rtk, row, rtm, rpd, rnt, rtn, rst, rwt, rgt, rlg, rlw, rlt⟩ := hR
  have h89 : 89 < gN σ := by omega
  have h90 : 90 < gN σ := by omega
  have h91 : 91 < gN σ := by omega
  have h92 : 92 < gN σ := by omega
  have h93 : 93 < gN σ := by omega
  have h94 : 94 < gN σ := by omega
  have h95 : 95 < gN σ := by omega
  have h96 : 96 < gN σ := by omega
  have h97 : 97 < gN σ := by omega
  have h98 : 98 < gN σ := by omega
  have h99 : 99 < gN σ := by omega
  have h100 : 100 < gN σ := by omega
  have h101 : 101 < gN σ := by omega
  have h102 : 102 < gN σ := by omega
  have h103 : 103 < gN σ := by omega
  have h104 : 104 < gN σ := by omega
  have h105 : 105 < gN σ := by omega
  have hd0 : 0 < d := by omega
  have hc0 : (nI (48 + p)).toNatClampNeg = 48 + p := nI_clamp (by omega)
  have hc1 : (nI (57 + o)).toNatClampNeg = 57 + o := nI_clamp (by omega)
  refine Con_of_X (ls := [.ref 89, .int (nI o), .int (nI p), .int net]) rfl (Nat.le_of_ble_eq_true rfl) rfl ?_
  refine X_wp [] ck_X10_ownFloorOf 21 ?_
  simp (decide := true) only [wp_s e_X10_ownFloorOf_0, wp_s e_X10_ownFloorOf_1, wp_s e_X10_ownFloorOf_2, wp_s e_X10_ownFloorOf_3, wp_s e_X10_ownFloorOf_6, wp_s e_X10_ownFloorOf_7, wp_s e_X10_ownFloorOf_10, wp_s e_X10_ownFloorOf_12, wp_s e_X10_ownFloorOf_13, wp_s e_X10_ownFloorOf_14, wp_s e_X10_ownFloorOf_15, wp_s e_X10_ownFloorOf_16, wp_s e_X10_ownFloorOf_19, wp_s e_X10_ownFloorOf_21, wp_s e_X10_ownFloorOf_22, wp_s e_X10_ownFloorOf_23, wp_s e_X10_ownFloorOf_24, wp_s e_X10_ownFloorOf_25, wp_s e_X10_ownFloorOf_28, st_iadd, st_isub, st_imul, st_iand, st_ior, st_ishl, st_ishr, st_idiv, st_irem, st_ladd, st_lsub, st_lmul, st_lor, st_land, st_ldiv, st_lshl, st_lcmp, st_i2l, st_i2b, st_l2i, st_i2c, st_iconst, st_bipush, st_sipush, st_lconst, st_ldc2_w, st_ldc_w, st_ldcI, st_ldcS, st_iload, st_iload_n, st_lload, st_lload_n, st_aload, st_aload_n, st_istore, st_istore_n, st_lstore, st_lstore_n, st_astore, st_astore_n, st_iinc, st_dup, st_pop, st_dup2, st_ifCond, st_if_icmp, st_goto, st_getI, st_getL, st_getR, st_putI, st_putL, st_putR, st_putZ, st_sval, st_scod, st_baload, st_baloadS, st_alen, st_alenS, st_gets1, st_getsF, st_iaload, st_laload, st_aaload, st_iastore, st_lastore, st_bastoreB, st_bastoreZ, st_aastore, st_iret, st_zret, st_cret, st_bret, st_return_, st_areturn, st_invV, st_invVS, st_invS, st_invI, st_min, st_max, st_obj, st_new, st_newarray, st_anewarray, st_multianewarray, st_table, st_lookup, pI_c, pL_c, pR_c, p1_i, p1_r, p1_n, iI_0, iI_s, iL_0, iL_s, iR_0, iR_s, rfV_s, kc_c, kl_c, cats_0, cats_i, cats_l, cats_r, rcv_c, rcvS_c, isRefA_c, cl_0, cl_1, cl_2, cl_3, cl_4, cl_5, cl_6, cl_7, set1_0, set1_1i, set1_1r, set1_1n, set1_s, set2_s, set2_1i, set2_1r, set2_1n, toL_s, toL_n, cnd, and_self, true_and, and_true, true_or, or_true, List.contains_nil, List.contains_cons, Bool.or_false, beq_iff_eq, Nat.reduceBEq, Nat.reduceEqDiff, Nat.reduceAdd, Nat.reduceLeDiff, Nat.reduceSub, Bool.false_eq_true, if_false, if_true, Nat.zero_le, Nat.add_zero, Nat.zero_add, Nat.le_refl, gN_sI, gN_sL, gN_sR, gR_sI, gR_sL, gR_sR, rtp, rx, rrd, rnm, rtk, row, rtm, rpd, rnt, rtn, rst, rwt, rgt, rlg, rlw, rlt, sh_89, sh_90, sh_91, sh_92, sh_93, sh_94, sh_95, sh_96, sh_97, sh_98, sh_99, sh_100, sh_101, sh_102, sh_103, sh_104, sh_105, h89, h90, h91, h92, h93, h94, h95, h96, h97, h98, h99, h100, h101, h102, h103, h104, h105, nI_add, vx0, vx1, vx2, vx3, vx4, vx5, cx0, cx1, cx2, cx3, cx4, cx5, hc0, hc1, @lit_add 48, @lit_add 57, @lit_mul 48, @lit_mul 57, hd0]
  repeat' first
    | exact vp_in_nI (by omega) (by omega)
    | (refine C_X10_greater ?_; (simp (decide := true) only [st_iadd, st_isub, st_imul, st_iand, st_ior, st_ishl, st_ishr, st_idiv, st_irem, st_ladd, st_lsub, st_lmul, st_lor, st_land, st_ldiv, st_lshl, st_lcmp, st_i2l, st_i2b, st_l2i, st_i2c, st_iconst, st_bipush, st_sipush, st_lconst, st_ldc2_w, st_ldc_w, st_ldcI, st_ldcS, st_iload, st_iload_n, st_lload, st_lload_n, st_aload, st_aload_n, st_istore, st_istore_n, st_lstore, st_lstore_n, st_astore, st_astore_n, st_iinc, st_dup, st_pop, st_dup2, st_ifCond, st_if_icmp, st_goto, st_getI, st_getL, st_getR, st_putI, st_putL, st_putR, st_putZ, st_sval, st_scod, st_baload, st_baloadS, st_alen, st_alenS, st_gets1, st_getsF, st_iaload, st_laload, st_aaload, st_iastore, st_lastore, st_bastoreB, st_bastoreZ, st_aastore, st_iret, st_zret, st_cret, st_bret, st_return_, st_areturn, st_invV, st_invVS, st_invS, st_invI, st_min, st_max, st_obj, st_new, st_newarray, st_anewarray, st_multianewarray, st_table, st_lookup, pI_c, pL_c, pR_c, p1_i, p1_r, p1_n, iI_0, iI_s, iL_0, iL_s, iR_0, iR_s, rfV_s, kc_c, kl_c, cats_0, cats_i, cats_l, cats_r, rcv_c, rcvS_c, isRefA_c, cl_0, cl_1, cl_2, cl_3, cl_4, cl_5, cl_6, cl_7, set1_0, set1_1i, set1_1r, set1_1n, set1_s, set2_s, set2_1i, set2_1r, set2_1n, toL_s, toL_n, cnd, and_self, true_and, and_true, true_or, or_true, List.contains_nil, List.contains_cons, Bool.or_false, beq_iff_eq, Nat.reduceBEq, Nat.reduceEqDiff, Nat.reduceAdd, Nat.reduceLeDiff, Nat.reduceSub, Bool.false_eq_true, if_false, if_true, Nat.zero_le, Nat.add_zero, Nat.zero_add, Nat.le_refl, gN_sI, gN_sL, gN_sR, gR_sI, gR_sL, gR_sR, rtp, rx, rrd, rnm, rtk, row, rtm, rpd, rnt, rtn, rst, rwt, rgt, rlg, rlw, rlt, sh_89, sh_90, sh_91, sh_92, sh_93, sh_94, sh_95, sh_96, sh_97, sh_98, sh_99, sh_100, sh_101, sh_102, sh_103, sh_104, sh_105, h89, h90, h91, h92, h93, h94, h95, h96, h97, h98, h99, h100, h101, h102, h103, h104, h105, nI_add, vx0, vx1, vx2, vx3, vx4, vx5, cx0, cx1, cx2, cx3, cx4, cx5, hc0, hc1, @lit_add 48, @lit_add 57, @lit_mul 48, @lit_mul 57, hd0]; try simp (decide := true) only [cats_0, cats_i, cats_r, cats_l, bI_0, bI_1, bI_01, true_and, and_true, and_self, Nat.zero_le, Nat.reduceAdd, Nat.reduceLeDiff]))
    | (refine C_X10_floorOf (by omega) hR0 hp ?_; (simp (decide := true) only [st_iadd, st_isub, st_imul, st_iand, st_ior, st_ishl, st_ishr, st_idiv, st_irem, st_ladd, st_lsub, st_lmul, st_lor, st_land, st_ldiv, st_lshl, st_lcmp, st_i2l, st_i2b, st_l2i, st_i2c, st_iconst, st_bipush, st_sipush, st_lconst, st_ldc2_w, st_ldc_w, st_ldcI, st_ldcS, st_iload, st_iload_n, st_lload, st_lload_n, st_aload, st_aload_n, st_istore, st_istore_n, st_lstore, st_lstore_n, st_astore, st_astore_n, st_iinc, st_dup, st_pop, st_dup2, st_ifCond, st_if_icmp, st_goto, st_getI, st_getL, st_getR, st_putI, st_putL, st_putR, st_putZ, st_sval, st_scod, st_baload, st_baloadS, st_alen, st_alenS, st_gets1, st_getsF, st_iaload, st_laload, st_aaload, st_iastore, st_lastore, st_bastoreB, st_bastoreZ, st_aastore, st_iret, st_zret, st_cret, st_bret, st_return_, st_areturn, st_invV, st_invVS, st_invS, st_invI, st_min, st_max, st_obj, st_new, st_newarray, st_anewarray, st_multianewarray, st_table, st_lookup, pI_c, pL_c, pR_c, p1_i, p1_r, p1_n, iI_0, iI_s, iL_0, iL_s, iR_0, iR_s, rfV_s, kc_c, kl_c, cats_0, cats_i, cats_l, cats_r, rcv_c, rcvS_c, isRefA_c, cl_0, cl_1, cl_2, cl_3, cl_4, cl_5, cl_6, cl_7, set1_0, set1_1i, set1_1r, set1_1n, set1_s, set2_s, set2_1i, set2_1r, set2_1n, toL_s, toL_n, cnd, and_self, true_and, and_true, true_or, or_true, List.contains_nil, List.contains_cons, Bool.or_false, beq_iff_eq, Nat.reduceBEq, Nat.reduceEqDiff, Nat.reduceAdd, Nat.reduceLeDiff, Nat.reduceSub, Bool.false_eq_true, if_false, if_true, Nat.zero_le, Nat.add_zero, Nat.zero_add, Nat.le_refl, gN_sI, gN_sL, gN_sR, gR_sI, gR_sL, gR_sR, rtp, rx, rrd, rnm, rtk, row, rtm, rpd, rnt, rtn, rst, rwt, rgt, rlg, rlw, rlt, sh_89, sh_90, sh_91, sh_92, sh_93, sh_94, sh_95, sh_96, sh_97, sh_98, sh_99, sh_100, sh_101, sh_102, sh_103, sh_104, sh_105, h89, h90, h91, h92, h93, h94, h95, h96, h97, h98, h99, h100, h101, h102, h103, h104, h105, nI_add, vx0, vx1, vx2, vx3, vx4, vx5, cx0, cx1, cx2, cx3, cx4, cx5, hc0, hc1, @lit_add 48, @lit_add 57, @lit_mul 48, @lit_mul 57, hd0]; try simp (decide := true) only [cats_0, cats_i, cats_r, cats_l, bI_0, bI_1, bI_01, true_and, and_true, and_self, Nat.zero_le, Nat.reduceAdd, Nat.reduceLeDiff]))
    | refine ⟨?_, ?_⟩
    | (show _ → _; intro _)
  all_goals first | exact h | rfl | grind [cats_0, rOwn]
set_option maxRecDepth 10000 in
theorem C_X10_isIn {r : Int32} (hd : 2 ≤ d) (hR : RefAt σ) (ht : t = 0 ∨ t = 6) (ho : o < 6) (hp : p < 3) (h : Rt (some (.int (bI (rLive σ t o && rAt σ o (nI p) && decide (gI σ 91 (51 + o) = r))))) σ) : Con d q_X10_isIn 0 0 [.ref 89, .int (nI t), .int (nI o), .int (nI p), .int r] σ Rt := by
  have hR0 := hR
  obtain ⟨hN, rtp, rx, rrd, rnm, rtk, row, rtm, rpd, rnt, rtn, rst, rwt, rgt, rlg, rlw, rlt⟩ := hR
  have h89 : 89 < gN σ := by omega
  have h90 : 90 < gN σ := by omega
  have h91 : 91 < gN σ := by omega
  have h92 : 92 < gN σ := by omega
  have h93 : 93 < gN σ := by omega
  have h94 : 94 < gN σ := by omega
  have h95 : 95 < gN σ := by omega
  have h96 : 96 < gN σ := by omega
  have h97 : 97 < gN σ := by omega
  have h98 : 98 < gN σ := by omega
  have h99 : 99 < gN σ := by omega
  have h100 : 100 < gN σ := by omega
  have h101 : 101 < gN σ := by omega
  have h102 : 102 < gN σ := by omega
  have h103 : 103 < gN σ := by omega
  have h104 : 104 < gN σ := by omega
  have h105 : 105 < gN σ := by omega
  have hd0 : 0 < d := by omega
  have hc0 : (nI (51 + o)).toNatClampNeg = 51 + o := nI_clamp (by omega)
  refine Con_of_X (ls := [.ref 89, .int (nI t), .int (nI o), .int (nI p), .int r]) rfl (Nat.le_of_ble_eq_true rfl) rfl ?_
  refine X_wp [] ck_X10_isIn 24 ?_
  simp (decide := true) only [wp_s e_X10_isIn_0, wp_s e_X10_isIn_1, wp_s e_X10_isIn_2, wp_s e_X10_isIn_3, wp_s e_X10_isIn_6, wp_s e_X10_isIn_9, wp_s e_X10_isIn_10, wp_s e_X10_isIn_11, wp_s e_X10_isIn_12, wp_s e_X10_isIn_15, wp_s e_X10_isIn_18, wp_s e_X10_isIn_19, wp_s e_X10_isIn_22, wp_s e_X10_isIn_24, wp_s e_X10_isIn_25, wp_s e_X10_isIn_26, wp_s e_X10_isIn_27, wp_s e_X10_isIn_29, wp_s e_X10_isIn_32, wp_s e_X10_isIn_33, wp_s e_X10_isIn_36, wp_s e_X10_isIn_37, st_iadd, st_isub, st_imul, st_iand, st_ior, st_ishl, st_ishr, st_idiv, st_irem, st_ladd, st_lsub, st_lmul, st_lor, st_land, st_ldiv, st_lshl, st_lcmp, st_i2l, st_i2b, st_l2i, st_i2c, st_iconst, st_bipush, st_sipush, st_lconst, st_ldc2_w, st_ldc_w, st_ldcI, st_ldcS, st_iload, st_iload_n, st_lload, st_lload_n, st_aload, st_aload_n, st_istore, st_istore_n, st_lstore, st_lstore_n, st_astore, st_astore_n, st_iinc, st_dup, st_pop, st_dup2, st_ifCond, st_if_icmp, st_goto, st_getI, st_getL, st_getR, st_putI, st_putL, st_putR, st_putZ, st_sval, st_scod, st_baload, st_baloadS, st_alen, st_alenS, st_gets1, st_getsF, st_iaload, st_laload, st_aaload, st_iastore, st_lastore, st_bastoreB, st_bastoreZ, st_aastore, st_iret, st_zret, st_cret, st_bret, st_return_, st_areturn, st_invV, st_invVS, st_invS, st_invI, st_min, st_max, st_obj, st_new, st_newarray, st_anewarray, st_multianewarray, st_table, st_lookup, pI_c, pL_c, pR_c, p1_i, p1_r, p1_n, iI_0, iI_s, iL_0, iL_s, iR_0, iR_s, rfV_s, kc_c, kl_c, cats_0, cats_i, cats_l, cats_r, rcv_c, rcvS_c, isRefA_c, cl_0, cl_1, cl_2, cl_3, cl_4, cl_5, cl_6, cl_7, set1_0, set1_1i, set1_1r, set1_1n, set1_s, set2_s, set2_1i, set2_1r, set2_1n, toL_s, toL_n, cnd, and_self, true_and, and_true, true_or, or_true, List.contains_nil, List.contains_cons, Bool.or_false, beq_iff_eq, Nat.reduceBEq, Nat.reduceEqDiff, Nat.reduceAdd, Nat.reduceLeDiff, Nat.reduceSub, Bool.false_eq_true, if_false, if_true, Nat.zero_le, Nat.add_zero, Nat.zero_add, Nat.le_refl, gN_sI, gN_sL, gN_sR, gR_sI, gR_sL, gR_sR, rtp, rx, rrd, rnm, rtk, row, rtm, rpd, rnt, rtn, rst, rwt, rgt, rlg, rlw, rlt, sh_89, sh_90, sh_91, sh_92, sh_93, sh_94, sh_95, sh_96, sh_97, sh_98, sh_99, sh_100, sh_101, sh_102, sh_103, sh_104, sh_105, h89, h90, h91, h92, h93, h94, h95, h96, h97, h98, h99, h100, h101, h102, h103, h104, h105, nI_add, vx0, vx1, vx2, vx3, vx4, vx5, cx0, cx1, cx2, cx3, cx4, cx5, hc0, @lit_add 1, @lit_add 51, @lit_mul 51, hd0]
  repeat' first
    | exact vp_in_nI (by omega) (by omega)
    | (refine C_X10_isLive (by omega) hR0 ht ho ?_; (simp (decide := true) only [st_iadd, st_isub, st_imul, st_iand, st_ior, st_ishl, st_ishr, st_idiv, st_irem, st_ladd, st_lsub, st_lmul, st_lor, st_land, st_ldiv, st_lshl, st_lcmp, st_i2l, st_i2b, st_l2i, st_i2c, st_iconst, st_bipush, st_sipush, st_lconst, st_ldc2_w, st_ldc_w, st_ldcI, st_ldcS, st_iload, st_iload_n, st_lload, st_lload_n, st_aload, st_aload_n, st_istore, st_istore_n, st_lstore, st_lstore_n, st_astore, st_astore_n, st_iinc, st_dup, st_pop, st_dup2, st_ifCond, st_if_icmp, st_goto, st_getI, st_getL, st_getR, st_putI, st_putL, st_putR, st_putZ, st_sval, st_scod, st_baload, st_baloadS, st_alen, st_alenS, st_gets1, st_getsF, st_iaload, st_laload, st_aaload, st_iastore, st_lastore, st_bastoreB, st_bastoreZ, st_aastore, st_iret, st_zret, st_cret, st_bret, st_return_, st_areturn, st_invV, st_invVS, st_invS, st_invI, st_min, st_max, st_obj, st_new, st_newarray, st_anewarray, st_multianewarray, st_table, st_lookup, pI_c, pL_c, pR_c, p1_i, p1_r, p1_n, iI_0, iI_s, iL_0, iL_s, iR_0, iR_s, rfV_s, kc_c, kl_c, cats_0, cats_i, cats_l, cats_r, rcv_c, rcvS_c, isRefA_c, cl_0, cl_1, cl_2, cl_3, cl_4, cl_5, cl_6, cl_7, set1_0, set1_1i, set1_1r, set1_1n, set1_s, set2_s, set2_1i, set2_1r, set2_1n, toL_s, toL_n, cnd, and_self, true_and, and_true, true_or, or_true, List.contains_nil, List.contains_cons, Bool.or_false, beq_iff_eq, Nat.reduceBEq, Nat.reduceEqDiff, Nat.reduceAdd, Nat.reduceLeDiff, Nat.reduceSub, Bool.false_eq_true, if_false, if_true, Nat.zero_le, Nat.add_zero, Nat.zero_add, Nat.le_refl, gN_sI, gN_sL, gN_sR, gR_sI, gR_sL, gR_sR, rtp, rx, rrd, rnm, rtk, row, rtm, rpd, rnt, rtn, rst, rwt, rgt, rlg, rlw, rlt, sh_89, sh_90, sh_91, sh_92, sh_93, sh_94, sh_95, sh_96, sh_97, sh_98, sh_99, sh_100, sh_101, sh_102, sh_103, sh_104, sh_105, h89, h90, h91, h92, h93, h94, h95, h96, h97, h98, h99, h100, h101, h102, h103, h104, h105, nI_add, vx0, vx1, vx2, vx3, vx4, vx5, cx0, cx1, cx2, cx3, cx4, cx5, hc0, @lit_add 1, @lit_add 51, @lit_mul 51, hd0]; try simp (decide := true) only [cats_0, cats_i, cats_r, cats_l, bI_0, bI_1, bI_01, true_and, and_true, and_self, Nat.zero_le, Nat.reduceAdd, Nat.reduceLeDiff]))
    | (refine C_X10_isAt hR0 ho ?_; (simp (decide := true) only [st_iadd, st_isub, st_imul, st_iand, st_ior, st_ishl, st_ishr, st_idiv, st_irem, st_ladd, st_lsub, st_lmul, st_lor, st_land, st_ldiv, st_lshl, st_lcmp, st_i2l, st_i2b, st_l2i, st_i2c, st_iconst, st_bipush, st_sipush, st_lconst, st_ldc2_w, st_ldc_w, st_ldcI, st_ldcS, st_iload, st_iload_n, st_lload, st_lload_n, st_aload, st_aload_n, st_istore, st_istore_n, st_lstore, st_lstore_n, st_astore, st_astore_n, st_iinc, st_dup, st_pop, st_dup2, st_ifCond, st_if_icmp, st_goto, st_getI, st_getL, st_getR, st_putI, st_putL, st_putR, st_putZ, st_sval, st_scod, st_baload, st_baloadS, st_alen, st_alenS, st_gets1, st_getsF, st_iaload, st_laload, st_aaload, st_iastore, st_lastore, st_bastoreB, st_bastoreZ, st_aastore, st_iret, st_zret, st_cret, st_bret, st_return_, st_areturn, st_invV, st_invVS, st_invS, st_invI, st_min, st_max, st_obj, st_new, st_newarray, st_anewarray, st_multianewarray, st_table, st_lookup, pI_c, pL_c, pR_c, p1_i, p1_r, p1_n, iI_0, iI_s, iL_0, iL_s, iR_0, iR_s, rfV_s, kc_c, kl_c, cats_0, cats_i, cats_l, cats_r, rcv_c, rcvS_c, isRefA_c, cl_0, cl_1, cl_2, cl_3, cl_4, cl_5, cl_6, cl_7, set1_0, set1_1i, set1_1r, set1_1n, set1_s, set2_s, set2_1i, set2_1r, set2_1n, toL_s, toL_n, cnd, and_self, true_and, and_true, true_or, or_true, List.contains_nil, List.contains_cons, Bool.or_false, beq_iff_eq, Nat.reduceBEq, Nat.reduceEqDiff, Nat.reduceAdd, Nat.reduceLeDiff, Nat.reduceSub, Bool.false_eq_true, if_false, if_true, Nat.zero_le, Nat.add_zero, Nat.zero_add, Nat.le_refl, gN_sI, gN_sL, gN_sR, gR_sI, gR_sL, gR_sR, rtp, rx, rrd, rnm, rtk, row, rtm, rpd, rnt, rtn, rst, rwt, rgt, rlg, rlw, rlt, sh_89, sh_90, sh_91, sh_92, sh_93, sh_94, sh_95, sh_96, sh_97, sh_98, sh_99, sh_100, sh_101, sh_102, sh_103, sh_104, sh_105, h89, h90, h91, h92, h93, h94, h95, h96, h97, h98, h99, h100, h101, h102, h103, h104, h105, nI_add, vx0, vx1, vx2, vx3, vx4, vx5, cx0, cx1, cx2, cx3, cx4, cx5, hc0, @lit_add 1, @lit_add 51, @lit_mul 51, hd0]; try simp (decide := true) only [cats_0, cats_i, cats_r, cats_l, bI_0, bI_1, bI_01, true_and, and_true, and_self, Nat.zero_le, Nat.reduceAdd, Nat.reduceLeDiff]))
    | refine ⟨?_, ?_⟩
    | (show _ → _; intro _)
  all_goals first | exact h | rfl | grind [cats_0, bI]
set_option maxRecDepth 10000 in
theorem C_X10_gives {n : Int32} (hR : RefAt σ) (ho : o < 6) (h : Rt none (sI (sI σ 102 o (gI σ 102 o + n)) 89 27 (gI σ 89 27 - n))) : Con d q_X10_gives 0 0 [.ref 89, .int (nI o), .int n] σ Rt := by
  have hR0 := hR
  obtain ⟨hN, rtp, rx, rrd, rnm, rtk, row, rtm, rpd, rnt, rtn, rst, rwt, rgt, rlg, rlw, rlt⟩ := hR
  have h89 : 89 < gN σ := by omega
  have h90 : 90 < gN σ := by omega
  have h91 : 91 < gN σ := by omega
  have h92 : 92 < gN σ := by omega
  have h93 : 93 < gN σ := by omega
  have h94 : 94 < gN σ := by omega
  have h95 : 95 < gN σ := by omega
  have h96 : 96 < gN σ := by omega
  have h97 : 97 < gN σ := by omega
  have h98 : 98 < gN σ := by omega
  have h99 : 99 < gN σ := by omega
  have h100 : 100 < gN σ := by omega
  have h101 : 101 < gN σ := by omega
  have h102 : 102 < gN σ := by omega
  have h103 : 103 < gN σ := by omega
  have h104 : 104 < gN σ := by omega
  have h105 : 105 < gN σ := by omega
  have hc0 : (nI (o)).toNatClampNeg = o := nI_clamp (by omega)
  refine Con_of_X (ls := [.ref 89, .int (nI o), .int n]) rfl (Nat.le_of_ble_eq_true rfl) rfl ?_
  refine X_wp [] ck_X10_gives 17 ?_
  simp (decide := true) only [wp_s e_X10_gives_0, wp_s e_X10_gives_1, wp_s e_X10_gives_4, wp_s e_X10_gives_5, wp_s e_X10_gives_6, wp_s e_X10_gives_7, wp_s e_X10_gives_8, wp_s e_X10_gives_9, wp_s e_X10_gives_10, wp_s e_X10_gives_11, wp_s e_X10_gives_12, wp_s e_X10_gives_15, wp_s e_X10_gives_16, wp_s e_X10_gives_17, wp_s e_X10_gives_20, st_iadd, st_isub, st_imul, st_iand, st_ior, st_ishl, st_ishr, st_idiv, st_irem, st_ladd, st_lsub, st_lmul, st_lor, st_land, st_ldiv, st_lshl, st_lcmp, st_i2l, st_i2b, st_l2i, st_i2c, st_iconst, st_bipush, st_sipush, st_lconst, st_ldc2_w, st_ldc_w, st_ldcI, st_ldcS, st_iload, st_iload_n, st_lload, st_lload_n, st_aload, st_aload_n, st_istore, st_istore_n, st_lstore, st_lstore_n, st_astore, st_astore_n, st_iinc, st_dup, st_pop, st_dup2, st_ifCond, st_if_icmp, st_goto, st_getI, st_getL, st_getR, st_putI, st_putL, st_putR, st_putZ, st_sval, st_scod, st_baload, st_baloadS, st_alen, st_alenS, st_gets1, st_getsF, st_iaload, st_laload, st_aaload, st_iastore, st_lastore, st_bastoreB, st_bastoreZ, st_aastore, st_iret, st_zret, st_cret, st_bret, st_return_, st_areturn, st_invV, st_invVS, st_invS, st_invI, st_min, st_max, st_obj, st_new, st_newarray, st_anewarray, st_multianewarray, st_table, st_lookup, pI_c, pL_c, pR_c, p1_i, p1_r, p1_n, iI_0, iI_s, iL_0, iL_s, iR_0, iR_s, rfV_s, kc_c, kl_c, cats_0, cats_i, cats_l, cats_r, rcv_c, rcvS_c, isRefA_c, cl_0, cl_1, cl_2, cl_3, cl_4, cl_5, cl_6, cl_7, set1_0, set1_1i, set1_1r, set1_1n, set1_s, set2_s, set2_1i, set2_1r, set2_1n, toL_s, toL_n, cnd, and_self, true_and, and_true, true_or, or_true, List.contains_nil, List.contains_cons, Bool.or_false, beq_iff_eq, Nat.reduceBEq, Nat.reduceEqDiff, Nat.reduceAdd, Nat.reduceLeDiff, Nat.reduceSub, Bool.false_eq_true, if_false, if_true, Nat.zero_le, Nat.add_zero, Nat.zero_add, Nat.le_refl, gN_sI, gN_sL, gN_sR, gR_sI, gR_sL, gR_sR, rtp, rx, rrd, rnm, rtk, row, rtm, rpd, rnt, rtn, rst, rwt, rgt, rlg, rlw, rlt, sh_89, sh_90, sh_91, sh_92, sh_93, sh_94, sh_95, sh_96, sh_97, sh_98, sh_99, sh_100, sh_101, sh_102, sh_103, sh_104, sh_105, h89, h90, h91, h92, h93, h94, h95, h96, h97, h98, h99, h100, h101, h102, h103, h104, h105, nI_add, vx0, vx1, vx2, vx3, vx4, vx5, cx0, cx1, cx2, cx3, cx4, cx5, hc0]
  repeat' first
    | exact vp_in_nI (by omega) (by omega)
    | refine ⟨?_, ?_⟩
    | (show _ → _; intro _)
  all_goals first | exact h | rfl | grind [cats_0, gI_sI]
set_option maxRecDepth 10000 in
theorem C_X10_isOrder {i : Int32} (hd : 1 ≤ d) (hR : RefAt σ) (h : Rt (some (.int (bI (decide (gI σ 89 15 ≠ 0 ∧ 0 ≤ i ∧ i ≤ gI σ 91 5 - 1))))) σ) : Con d q_X10_isOrder 0 0 [.ref 89, .int i] σ Rt := by
  have hR0 := hR
  obtain ⟨hN, rtp, rx, rrd, rnm, rtk, row, rtm, rpd, rnt, rtn, rst, rwt, rgt, rlg, rlw, rlt⟩ := hR
  have h89 : 89 < gN σ := by omega
  have h90 : 90 < gN σ := by omega
  have h91 : 91 < gN σ := by omega
  have h92 : 92 < gN σ := by omega
  have h93 : 93 < gN σ := by omega
  have h94 : 94 < gN σ := by omega
  have h95 : 95 < gN σ := by omega
  have h96 : 96 < gN σ := by omega
  have h97 : 97 < gN σ := by omega
  have h98 : 98 < gN σ := by omega
  have h99 : 99 < gN σ := by omega
  have h100 : 100 < gN σ := by omega
  have h101 : 101 < gN σ := by omega
  have h102 : 102 < gN σ := by omega
  have h103 : 103 < gN σ := by omega
  have h104 : 104 < gN σ := by omega
  have h105 : 105 < gN σ := by omega
  have hd0 : 0 < d := by omega
  refine Con_of_X (ls := [.ref 89, .int i]) rfl (Nat.le_of_ble_eq_true rfl) rfl ?_
  refine X_wp [] ck_X10_isOrder 19 ?_
  simp (decide := true) only [wp_s e_X10_isOrder_0, wp_s e_X10_isOrder_1, wp_s e_X10_isOrder_4, wp_s e_X10_isOrder_7, wp_s e_X10_isOrder_8, wp_s e_X10_isOrder_9, wp_s e_X10_isOrder_10, wp_s e_X10_isOrder_13, wp_s e_X10_isOrder_14, wp_s e_X10_isOrder_15, wp_s e_X10_isOrder_16, wp_s e_X10_isOrder_17, wp_s e_X10_isOrder_20, wp_s e_X10_isOrder_23, wp_s e_X10_isOrder_24, wp_s e_X10_isOrder_27, wp_s e_X10_isOrder_28, st_iadd, st_isub, st_imul, st_iand, st_ior, st_ishl, st_ishr, st_idiv, st_irem, st_ladd, st_lsub, st_lmul, st_lor, st_land, st_ldiv, st_lshl, st_lcmp, st_i2l, st_i2b, st_l2i, st_i2c, st_iconst, st_bipush, st_sipush, st_lconst, st_ldc2_w, st_ldc_w, st_ldcI, st_ldcS, st_iload, st_iload_n, st_lload, st_lload_n, st_aload, st_aload_n, st_istore, st_istore_n, st_lstore, st_lstore_n, st_astore, st_astore_n, st_iinc, st_dup, st_pop, st_dup2, st_ifCond, st_if_icmp, st_goto, st_getI, st_getL, st_getR, st_putI, st_putL, st_putR, st_putZ, st_sval, st_scod, st_baload, st_baloadS, st_alen, st_alenS, st_gets1, st_getsF, st_iaload, st_laload, st_aaload, st_iastore, st_lastore, st_bastoreB, st_bastoreZ, st_aastore, st_iret, st_zret, st_cret, st_bret, st_return_, st_areturn, st_invV, st_invVS, st_invS, st_invI, st_min, st_max, st_obj, st_new, st_newarray, st_anewarray, st_multianewarray, st_table, st_lookup, pI_c, pL_c, pR_c, p1_i, p1_r, p1_n, iI_0, iI_s, iL_0, iL_s, iR_0, iR_s, rfV_s, kc_c, kl_c, cats_0, cats_i, cats_l, cats_r, rcv_c, rcvS_c, isRefA_c, cl_0, cl_1, cl_2, cl_3, cl_4, cl_5, cl_6, cl_7, set1_0, set1_1i, set1_1r, set1_1n, set1_s, set2_s, set2_1i, set2_1r, set2_1n, toL_s, toL_n, cnd, and_self, true_and, and_true, true_or, or_true, List.contains_nil, List.contains_cons, Bool.or_false, beq_iff_eq, Nat.reduceBEq, Nat.reduceEqDiff, Nat.reduceAdd, Nat.reduceLeDiff, Nat.reduceSub, Bool.false_eq_true, if_false, if_true, Nat.zero_le, Nat.add_zero, Nat.zero_add, Nat.le_refl, gN_sI, gN_sL, gN_sR, gR_sI, gR_sL, gR_sR, rtp, rx, rrd, rnm, rtk, row, rtm, rpd, rnt, rtn, rst, rwt, rgt, rlg, rlw, rlt, sh_89, sh_90, sh_91, sh_92, sh_93, sh_94, sh_95, sh_96, sh_97, sh_98, sh_99, sh_100, sh_101, sh_102, sh_103, sh_104, sh_105, h89, h90, h91, h92, h93, h94, h95, h96, h97, h98, h99, h100, h101, h102, h103, h104, h105, nI_add, vx0, vx1, vx2, vx3, vx4, vx5, cx0, cx1, cx2, cx3, cx4, cx5, @lit_add 1, @lit_add 5, @lit_mul 5, hd0]
  repeat' first
    | exact vp_in_nI (by omega) (by omega)
    | (refine C_X10_in ?_; (simp (decide := true) only [st_iadd, st_isub, st_imul, st_iand, st_ior, st_ishl, st_ishr, st_idiv, st_irem, st_ladd, st_lsub, st_lmul, st_lor, st_land, st_ldiv, st_lshl, st_lcmp, st_i2l, st_i2b, st_l2i, st_i2c, st_iconst, st_bipush, st_sipush, st_lconst, st_ldc2_w, st_ldc_w, st_ldcI, st_ldcS, st_iload, st_iload_n, st_lload, st_lload_n, st_aload, st_aload_n, st_istore, st_istore_n, st_lstore, st_lstore_n, st_astore, st_astore_n, st_iinc, st_dup, st_pop, st_dup2, st_ifCond, st_if_icmp, st_goto, st_getI, st_getL, st_getR, st_putI, st_putL, st_putR, st_putZ, st_sval, st_scod, st_baload, st_baloadS, st_alen, st_alenS, st_gets1, st_getsF, st_iaload, st_laload, st_aaload, st_iastore, st_lastore, st_bastoreB, st_bastoreZ, st_aastore, st_iret, st_zret, st_cret, st_bret, st_return_, st_areturn, st_invV, st_invVS, st_invS, st_invI, st_min, st_max, st_obj, st_new, st_newarray, st_anewarray, st_multianewarray, st_table, st_lookup, pI_c, pL_c, pR_c, p1_i, p1_r, p1_n, iI_0, iI_s, iL_0, iL_s, iR_0, iR_s, rfV_s, kc_c, kl_c, cats_0, cats_i, cats_l, cats_r, rcv_c, rcvS_c, isRefA_c, cl_0, cl_1, cl_2, cl_3, cl_4, cl_5, cl_6, cl_7, set1_0, set1_1i, set1_1r, set1_1n, set1_s, set2_s, set2_1i, set2_1r, set2_1n, toL_s, toL_n, cnd, and_self, true_and, and_true, true_or, or_true, List.contains_nil, List.contains_cons, Bool.or_false, beq_iff_eq, Nat.reduceBEq, Nat.reduceEqDiff, Nat.reduceAdd, Nat.reduceLeDiff, Nat.reduceSub, Bool.false_eq_true, if_false, if_true, Nat.zero_le, Nat.add_zero, Nat.zero_add, Nat.le_refl, gN_sI, gN_sL, gN_sR, gR_sI, gR_sL, gR_sR, rtp, rx, rrd, rnm, rtk, row, rtm, rpd, rnt, rtn, rst, rwt, rgt, rlg, rlw, rlt, sh_89, sh_90, sh_91, sh_92, sh_93, sh_94, sh_95, sh_96, sh_97, sh_98, sh_99, sh_100, sh_101, sh_102, sh_103, sh_104, sh_105, h89, h90, h91, h92, h93, h94, h95, h96, h97, h98, h99, h100, h101, h102, h103, h104, h105, nI_add, vx0, vx1, vx2, vx3, vx4, vx5, cx0, cx1, cx2, cx3, cx4, cx5, @lit_add 1, @lit_add 5, @lit_mul 5, hd0]; try simp (decide := true) only [cats_0, cats_i, cats_r, cats_l, bI_0, bI_1, bI_01, true_and, and_true, and_self, Nat.zero_le, Nat.reduceAdd, Nat.reduceLeDiff]))
    | refine ⟨?_, ?_⟩
    | (show _ → _; intro _)
  all_goals first | exact h | rfl | grind [cats_0, bI]
set_option maxRecDepth 10000 in
theorem C_X10_isPayer {i : Int32} (hd : 1 ≤ d) (hR : RefAt σ) (h : Rt (some (.int (bI (decide (gI σ 89 15 ≠ 0 ∧ 0 ≤ i ∧ i ≤ gI σ 91 4 - 1))))) σ) : Con d q_X10_isPayer 0 0 [.ref 89, .int i] σ Rt := by
  have hR0 := hR
  obtain ⟨hN, rtp, rx, rrd, rnm, rtk, row, rtm, rpd, rnt, rtn, rst, rwt, rgt, rlg, rlw, rlt⟩ := hR
  have h89 : 89 < gN σ := by omega
  have h90 : 90 < gN σ := by omega
  have h91 : 91 < gN σ := by omega
  have h92 : 92 < gN σ := by omega
  have h93 : 93 < gN σ := by omega
  have h94 : 94 < gN σ := by omega
  have h95 : 95 < gN σ := by omega
  have h96 : 96 < gN σ := by omega
  have h97 : 97 < gN σ := by omega
  have h98 : 98 < gN σ := by omega
  have h99 : 99 < gN σ := by omega
  have h100 : 100 < gN σ := by omega
  have h101 : 101 < gN σ := by omega
  have h102 : 102 < gN σ := by omega
  have h103 : 103 < gN σ := by omega
  have h104 : 104 < gN σ := by omega
  have h105 : 105 < gN σ := by omega
  have hd0 : 0 < d := by omega
  refine Con_of_X (ls := [.ref 89, .int i]) rfl (Nat.le_of_ble_eq_true rfl) rfl ?_
  refine X_wp [] ck_X10_isPayer 19 ?_
  simp (decide := true) only [wp_s e_X10_isPayer_0, wp_s e_X10_isPayer_1, wp_s e_X10_isPayer_4, wp_s e_X10_isPayer_7, wp_s e_X10_isPayer_8, wp_s e_X10_isPayer_9, wp_s e_X10_isPayer_10, wp_s e_X10_isPayer_13, wp_s e_X10_isPayer_14, wp_s e_X10_isPayer_15, wp_s e_X10_isPayer_16, wp_s e_X10_isPayer_17, wp_s e_X10_isPayer_20, wp_s e_X10_isPayer_23, wp_s e_X10_isPayer_24, wp_s e_X10_isPayer_27, wp_s e_X10_isPayer_28, st_iadd, st_isub, st_imul, st_iand, st_ior, st_ishl, st_ishr, st_idiv, st_irem, st_ladd, st_lsub, st_lmul, st_lor, st_land, st_ldiv, st_lshl, st_lcmp, st_i2l, st_i2b, st_l2i, st_i2c, st_iconst, st_bipush, st_sipush, st_lconst, st_ldc2_w, st_ldc_w, st_ldcI, st_ldcS, st_iload, st_iload_n, st_lload, st_lload_n, st_aload, st_aload_n, st_istore, st_istore_n, st_lstore, st_lstore_n, st_astore, st_astore_n, st_iinc, st_dup, st_pop, st_dup2, st_ifCond, st_if_icmp, st_goto, st_getI, st_getL, st_getR, st_putI, st_putL, st_putR, st_putZ, st_sval, st_scod, st_baload, st_baloadS, st_alen, st_alenS, st_gets1, st_getsF, st_iaload, st_laload, st_aaload, st_iastore, st_lastore, st_bastoreB, st_bastoreZ, st_aastore, st_iret, st_zret, st_cret, st_bret, st_return_, st_areturn, st_invV, st_invVS, st_invS, st_invI, st_min, st_max, st_obj, st_new, st_newarray, st_anewarray, st_multianewarray, st_table, st_lookup, pI_c, pL_c, pR_c, p1_i, p1_r, p1_n, iI_0, iI_s, iL_0, iL_s, iR_0, iR_s, rfV_s, kc_c, kl_c, cats_0, cats_i, cats_l, cats_r, rcv_c, rcvS_c, isRefA_c, cl_0, cl_1, cl_2, cl_3, cl_4, cl_5, cl_6, cl_7, set1_0, set1_1i, set1_1r, set1_1n, set1_s, set2_s, set2_1i, set2_1r, set2_1n, toL_s, toL_n, cnd, and_self, true_and, and_true, true_or, or_true, List.contains_nil, List.contains_cons, Bool.or_false, beq_iff_eq, Nat.reduceBEq, Nat.reduceEqDiff, Nat.reduceAdd, Nat.reduceLeDiff, Nat.reduceSub, Bool.false_eq_true, if_false, if_true, Nat.zero_le, Nat.add_zero, Nat.zero_add, Nat.le_refl, gN_sI, gN_sL, gN_sR, gR_sI, gR_sL, gR_sR, rtp, rx, rrd, rnm, rtk, row, rtm, rpd, rnt, rtn, rst, rwt, rgt, rlg, rlw, rlt, sh_89, sh_90, sh_91, sh_92, sh_93, sh_94, sh_95, sh_96, sh_97, sh_98, sh_99, sh_100, sh_101, sh_102, sh_103, sh_104, sh_105, h89, h90, h91, h92, h93, h94, h95, h96, h97, h98, h99, h100, h101, h102, h103, h104, h105, nI_add, vx0, vx1, vx2, vx3, vx4, vx5, cx0, cx1, cx2, cx3, cx4, cx5, @lit_add 1, @lit_add 4, @lit_mul 4, hd0]
  repeat' first
    | exact vp_in_nI (by omega) (by omega)
    | (refine C_X10_in ?_; (simp (decide := true) only [st_iadd, st_isub, st_imul, st_iand, st_ior, st_ishl, st_ishr, st_idiv, st_irem, st_ladd, st_lsub, st_lmul, st_lor, st_land, st_ldiv, st_lshl, st_lcmp, st_i2l, st_i2b, st_l2i, st_i2c, st_iconst, st_bipush, st_sipush, st_lconst, st_ldc2_w, st_ldc_w, st_ldcI, st_ldcS, st_iload, st_iload_n, st_lload, st_lload_n, st_aload, st_aload_n, st_istore, st_istore_n, st_lstore, st_lstore_n, st_astore, st_astore_n, st_iinc, st_dup, st_pop, st_dup2, st_ifCond, st_if_icmp, st_goto, st_getI, st_getL, st_getR, st_putI, st_putL, st_putR, st_putZ, st_sval, st_scod, st_baload, st_baloadS, st_alen, st_alenS, st_gets1, st_getsF, st_iaload, st_laload, st_aaload, st_iastore, st_lastore, st_bastoreB, st_bastoreZ, st_aastore, st_iret, st_zret, st_cret, st_bret, st_return_, st_areturn, st_invV, st_invVS, st_invS, st_invI, st_min, st_max, st_obj, st_new, st_newarray, st_anewarray, st_multianewarray, st_table, st_lookup, pI_c, pL_c, pR_c, p1_i, p1_r, p1_n, iI_0, iI_s, iL_0, iL_s, iR_0, iR_s, rfV_s, kc_c, kl_c, cats_0, cats_i, cats_l, cats_r, rcv_c, rcvS_c, isRefA_c, cl_0, cl_1, cl_2, cl_3, cl_4, cl_5, cl_6, cl_7, set1_0, set1_1i, set1_1r, set1_1n, set1_s, set2_s, set2_1i, set2_1r, set2_1n, toL_s, toL_n, cnd, and_self, true_and, and_true, true_or, or_true, List.contains_nil, List.contains_cons, Bool.or_false, beq_iff_eq, Nat.reduceBEq, Nat.reduceEqDiff, Nat.reduceAdd, Nat.reduceLeDiff, Nat.reduceSub, Bool.false_eq_true, if_false, if_true, Nat.zero_le, Nat.add_zero, Nat.zero_add, Nat.le_refl, gN_sI, gN_sL, gN_sR, gR_sI, gR_sL, gR_sR, rtp, rx, rrd, rnm, rtk, row, rtm, rpd, rnt, rtn, rst, rwt, rgt, rlg, rlw, rlt, sh_89, sh_90, sh_91, sh_92, sh_93, sh_94, sh_95, sh_96, sh_97, sh_98, sh_99, sh_100, sh_101, sh_102, sh_103, sh_104, sh_105, h89, h90, h91, h92, h93, h94, h95, h96, h97, h98, h99, h100, h101, h102, h103, h104, h105, nI_add, vx0, vx1, vx2, vx3, vx4, vx5, cx0, cx1, cx2, cx3, cx4, cx5, @lit_add 1, @lit_add 4, @lit_mul 4, hd0]; try simp (decide := true) only [cats_0, cats_i, cats_r, cats_l, bI_0, bI_1, bI_01, true_and, and_true, and_self, Nat.zero_le, Nat.reduceAdd, Nat.reduceLeDiff]))
    | refine ⟨?_, ?_⟩
    | (show _ → _; intro _)
  all_goals first | exact h | rfl | grind [cats_0, bI]
set_option maxRecDepth 10000 in
theorem C_X10_isPast {i : Int32} (hd : 1 ≤ d) (hR : RefAt σ) (h : Rt (some (.int (bI (decide (gI σ 89 15 ≠ 0 ∧ 0 ≤ i ∧ i ≤ gI σ 89 31 - 1))))) σ) : Con d q_X10_isPast 0 0 [.ref 89, .int i] σ Rt := by
  have hR0 := hR
  obtain ⟨hN, rtp, rx, rrd, rnm, rtk, row, rtm, rpd, rnt, rtn, rst, rwt, rgt, rlg, rlw, rlt⟩ := hR
  have h89 : 89 < gN σ := by omega
  have h90 : 90 < gN σ := by omega
  have h91 : 91 < gN σ := by omega
  have h92 : 92 < gN σ := by omega
  have h93 : 93 < gN σ := by omega
  have h94 : 94 < gN σ := by omega
  have h95 : 95 < gN σ := by omega
  have h96 : 96 < gN σ := by omega
  have h97 : 97 < gN σ := by omega
  have h98 : 98 < gN σ := by omega
  have h99 : 99 < gN σ := by omega
  have h100 : 100 < gN σ := by omega
  have h101 : 101 < gN σ := by omega
  have h102 : 102 < gN σ := by omega
  have h103 : 103 < gN σ := by omega
  have h104 : 104 < gN σ := by omega
  have h105 : 105 < gN σ := by omega
  have hd0 : 0 < d := by omega
  refine Con_of_X (ls := [.ref 89, .int i]) rfl (Nat.le_of_ble_eq_true rfl) rfl ?_
  refine X_wp [] ck_X10_isPast 17 ?_
  simp (decide := true) only [wp_s e_X10_isPast_0, wp_s e_X10_isPast_1, wp_s e_X10_isPast_4, wp_s e_X10_isPast_7, wp_s e_X10_isPast_8, wp_s e_X10_isPast_9, wp_s e_X10_isPast_10, wp_s e_X10_isPast_13, wp_s e_X10_isPast_14, wp_s e_X10_isPast_15, wp_s e_X10_isPast_18, wp_s e_X10_isPast_21, wp_s e_X10_isPast_22, wp_s e_X10_isPast_25, wp_s e_X10_isPast_26, st_iadd, st_isub, st_imul, st_iand, st_ior, st_ishl, st_ishr, st_idiv, st_irem, st_ladd, st_lsub, st_lmul, st_lor, st_land, st_ldiv, st_lshl, st_lcmp, st_i2l, st_i2b, st_l2i, st_i2c, st_iconst, st_bipush, st_sipush, st_lconst, st_ldc2_w, st_ldc_w, st_ldcI, st_ldcS, st_iload, st_iload_n, st_lload, st_lload_n, st_aload, st_aload_n, st_istore, st_istore_n, st_lstore, st_lstore_n, st_astore, st_astore_n, st_iinc, st_dup, st_pop, st_dup2, st_ifCond, st_if_icmp, st_goto, st_getI, st_getL, st_getR, st_putI, st_putL, st_putR, st_putZ, st_sval, st_scod, st_baload, st_baloadS, st_alen, st_alenS, st_gets1, st_getsF, st_iaload, st_laload, st_aaload, st_iastore, st_lastore, st_bastoreB, st_bastoreZ, st_aastore, st_iret, st_zret, st_cret, st_bret, st_return_, st_areturn, st_invV, st_invVS, st_invS, st_invI, st_min, st_max, st_obj, st_new, st_newarray, st_anewarray, st_multianewarray, st_table, st_lookup, pI_c, pL_c, pR_c, p1_i, p1_r, p1_n, iI_0, iI_s, iL_0, iL_s, iR_0, iR_s, rfV_s, kc_c, kl_c, cats_0, cats_i, cats_l, cats_r, rcv_c, rcvS_c, isRefA_c, cl_0, cl_1, cl_2, cl_3, cl_4, cl_5, cl_6, cl_7, set1_0, set1_1i, set1_1r, set1_1n, set1_s, set2_s, set2_1i, set2_1r, set2_1n, toL_s, toL_n, cnd, and_self, true_and, and_true, true_or, or_true, List.contains_nil, List.contains_cons, Bool.or_false, beq_iff_eq, Nat.reduceBEq, Nat.reduceEqDiff, Nat.reduceAdd, Nat.reduceLeDiff, Nat.reduceSub, Bool.false_eq_true, if_false, if_true, Nat.zero_le, Nat.add_zero, Nat.zero_add, Nat.le_refl, gN_sI, gN_sL, gN_sR, gR_sI, gR_sL, gR_sR, rtp, rx, rrd, rnm, rtk, row, rtm, rpd, rnt, rtn, rst, rwt, rgt, rlg, rlw, rlt, sh_89, sh_90, sh_91, sh_92, sh_93, sh_94, sh_95, sh_96, sh_97, sh_98, sh_99, sh_100, sh_101, sh_102, sh_103, sh_104, sh_105, h89, h90, h91, h92, h93, h94, h95, h96, h97, h98, h99, h100, h101, h102, h103, h104, h105, nI_add, vx0, vx1, vx2, vx3, vx4, vx5, cx0, cx1, cx2, cx3, cx4, cx5, @lit_add 1, hd0]
  repeat' first
    | exact vp_in_nI (by omega) (by omega)
    | (refine C_X10_in ?_; (simp (decide := true) only [st_iadd, st_isub, st_imul, st_iand, st_ior, st_ishl, st_ishr, st_idiv, st_irem, st_ladd, st_lsub, st_lmul, st_lor, st_land, st_ldiv, st_lshl, st_lcmp, st_i2l, st_i2b, st_l2i, st_i2c, st_iconst, st_bipush, st_sipush, st_lconst, st_ldc2_w, st_ldc_w, st_ldcI, st_ldcS, st_iload, st_iload_n, st_lload, st_lload_n, st_aload, st_aload_n, st_istore, st_istore_n, st_lstore, st_lstore_n, st_astore, st_astore_n, st_iinc, st_dup, st_pop, st_dup2, st_ifCond, st_if_icmp, st_goto, st_getI, st_getL, st_getR, st_putI, st_putL, st_putR, st_putZ, st_sval, st_scod, st_baload, st_baloadS, st_alen, st_alenS, st_gets1, st_getsF, st_iaload, st_laload, st_aaload, st_iastore, st_lastore, st_bastoreB, st_bastoreZ, st_aastore, st_iret, st_zret, st_cret, st_bret, st_return_, st_areturn, st_invV, st_invVS, st_invS, st_invI, st_min, st_max, st_obj, st_new, st_newarray, st_anewarray, st_multianewarray, st_table, st_lookup, pI_c, pL_c, pR_c, p1_i, p1_r, p1_n, iI_0, iI_s, iL_0, iL_s, iR_0, iR_s, rfV_s, kc_c, kl_c, cats_0, cats_i, cats_l, cats_r, rcv_c, rcvS_c, isRefA_c, cl_0, cl_1, cl_2, cl_3, cl_4, cl_5, cl_6, cl_7, set1_0, set1_1i, set1_1r, set1_1n, set1_s, set2_s, set2_1i, set2_1r, set2_1n, toL_s, toL_n, cnd, and_self, true_and, and_true, true_or, or_true, List.contains_nil, List.contains_cons, Bool.or_false, beq_iff_eq, Nat.reduceBEq, Nat.reduceEqDiff, Nat.reduceAdd, Nat.reduceLeDiff, Nat.reduceSub, Bool.false_eq_true, if_false, if_true, Nat.zero_le, Nat.add_zero, Nat.zero_add, Nat.le_refl, gN_sI, gN_sL, gN_sR, gR_sI, gR_sL, gR_sR, rtp, rx, rrd, rnm, rtk, row, rtm, rpd, rnt, rtn, rst, rwt, rgt, rlg, rlw, rlt, sh_89, sh_90, sh_91, sh_92, sh_93, sh_94, sh_95, sh_96, sh_97, sh_98, sh_99, sh_100, sh_101, sh_102, sh_103, sh_104, sh_105, h89, h90, h91, h92, h93, h94, h95, h96, h97, h98, h99, h100, h101, h102, h103, h104, h105, nI_add, vx0, vx1, vx2, vx3, vx4, vx5, cx0, cx1, cx2, cx3, cx4, cx5, @lit_add 1, hd0]; try simp (decide := true) only [cats_0, cats_i, cats_r, cats_l, bI_0, bI_1, bI_01, true_and, and_true, and_self, Nat.zero_le, Nat.reduceAdd, Nat.reduceLeDiff]))
    | refine ⟨?_, ?_⟩
    | (show _ → _; intro _)
  all_goals first | exact h | rfl | grind [cats_0, bI]
set_option maxRecDepth 10000 in
theorem C_X10_payersOf (hR : RefAt σ) (ho : o < 6) (h : Rt (some (.int (gI σ 91 (81 + o) &&& ((1 : Int32) <<< (gI σ 91 4 &&& 31) - 1)))) σ) : Con d q_X10_payersOf 0 0 [.ref 89, .int (nI o)] σ Rt := by
  have hR0 := hR
  obtain ⟨hN, rtp, rx, rrd, rnm, rtk, row, rtm, rpd, rnt, rtn, rst, rwt, rgt, rlg, rlw, rlt⟩ := hR
  have h89 : 89 < gN σ := by omega
  have h90 : 90 < gN σ := by omega
  have h91 : 91 < gN σ := by omega
  have h92 : 92 < gN σ := by omega
  have h93 : 93 < gN σ := by omega
  have h94 : 94 < gN σ := by omega
  have h95 : 95 < gN σ := by omega
  have h96 : 96 < gN σ := by omega
  have h97 : 97 < gN σ := by omega
  have h98 : 98 < gN σ := by omega
  have h99 : 99 < gN σ := by omega
  have h100 : 100 < gN σ := by omega
  have h101 : 101 < gN σ := by omega
  have h102 : 102 < gN σ := by omega
  have h103 : 103 < gN σ := by omega
  have h104 : 104 < gN σ := by omega
  have h105 : 105 < gN σ := by omega
  have hc0 : (nI (81 + o)).toNatClampNeg = 81 + o := nI_clamp (by omega)
  refine Con_of_X (ls := [.ref 89, .int (nI o)]) rfl (Nat.le_of_ble_eq_true rfl) rfl ?_
  refine X_wp [] ck_X10_payersOf 18 ?_
  simp (decide := true) only [wp_s e_X10_payersOf_0, wp_s e_X10_payersOf_1, wp_s e_X10_payersOf_4, wp_s e_X10_payersOf_6, wp_s e_X10_payersOf_7, wp_s e_X10_payersOf_8, wp_s e_X10_payersOf_9, wp_s e_X10_payersOf_10, wp_s e_X10_payersOf_11, wp_s e_X10_payersOf_14, wp_s e_X10_payersOf_15, wp_s e_X10_payersOf_16, wp_s e_X10_payersOf_17, wp_s e_X10_payersOf_18, wp_s e_X10_payersOf_19, wp_s e_X10_payersOf_20, st_iadd, st_isub, st_imul, st_iand, st_ior, st_ishl, st_ishr, st_idiv, st_irem, st_ladd, st_lsub, st_lmul, st_lor, st_land, st_ldiv, st_lshl, st_lcmp, st_i2l, st_i2b, st_l2i, st_i2c, st_iconst, st_bipush, st_sipush, st_lconst, st_ldc2_w, st_ldc_w, st_ldcI, st_ldcS, st_iload, st_iload_n, st_lload, st_lload_n, st_aload, st_aload_n, st_istore, st_istore_n, st_lstore, st_lstore_n, st_astore, st_astore_n, st_iinc, st_dup, st_pop, st_dup2, st_ifCond, st_if_icmp, st_goto, st_getI, st_getL, st_getR, st_putI, st_putL, st_putR, st_putZ, st_sval, st_scod, st_baload, st_baloadS, st_alen, st_alenS, st_gets1, st_getsF, st_iaload, st_laload, st_aaload, st_iastore, st_lastore, st_bastoreB, st_bastoreZ, st_aastore, st_iret, st_zret, st_cret, st_bret, st_return_, st_areturn, st_invV, st_invVS, st_invS, st_invI, st_min, st_max, st_obj, st_new, st_newarray, st_anewarray, st_multianewarray, st_table, st_lookup, pI_c, pL_c, pR_c, p1_i, p1_r, p1_n, iI_0, iI_s, iL_0, iL_s, iR_0, iR_s, rfV_s, kc_c, kl_c, cats_0, cats_i, cats_l, cats_r, rcv_c, rcvS_c, isRefA_c, cl_0, cl_1, cl_2, cl_3, cl_4, cl_5, cl_6, cl_7, set1_0, set1_1i, set1_1r, set1_1n, set1_s, set2_s, set2_1i, set2_1r, set2_1n, toL_s, toL_n, cnd, and_self, true_and, and_true, true_or, or_true, List.contains_nil, List.contains_cons, Bool.or_false, beq_iff_eq, Nat.reduceBEq, Nat.reduceEqDiff, Nat.reduceAdd, Nat.reduceLeDiff, Nat.reduceSub, Bool.false_eq_true, if_false, if_true, Nat.zero_le, Nat.add_zero, Nat.zero_add, Nat.le_refl, gN_sI, gN_sL, gN_sR, gR_sI, gR_sL, gR_sR, rtp, rx, rrd, rnm, rtk, row, rtm, rpd, rnt, rtn, rst, rwt, rgt, rlg, rlw, rlt, sh_89, sh_90, sh_91, sh_92, sh_93, sh_94, sh_95, sh_96, sh_97, sh_98, sh_99, sh_100, sh_101, sh_102, sh_103, sh_104, sh_105, h89, h90, h91, h92, h93, h94, h95, h96, h97, h98, h99, h100, h101, h102, h103, h104, h105, nI_add, vx0, vx1, vx2, vx3, vx4, vx5, cx0, cx1, cx2, cx3, cx4, cx5, hc0, @lit_add 1, @lit_add 4, @lit_add 81, @lit_mul 4, @lit_mul 81]
  repeat' first
    | exact vp_in_nI (by omega) (by omega)
    | refine ⟨?_, ?_⟩
    | (show _ → _; intro _)
  all_goals first | exact h | rfl | grind [cats_0, bI]
set_option maxRecDepth 10000 in
theorem C_X10_fault (hR : RefAt σ) (h : Rt (some (.int (gI σ 89 10))) (sI σ 89 0 0)) : Con d q_X10_fault 0 0 [.ref 89] σ Rt := by
  have hR0 := hR
  obtain ⟨hN, rtp, rx, rrd, rnm, rtk, row, rtm, rpd, rnt, rtn, rst, rwt, rgt, rlg, rlw, rlt⟩ := hR
  have h89 : 89 < gN σ := by omega
  have h90 : 90 < gN σ := by omega
  have h91 : 91 < gN σ := by omega
  have h92 : 92 < gN σ := by omega
  have h93 : 93 < gN σ := by omega
  have h94 : 94 < gN σ := by omega
  have h95 : 95 < gN σ := by omega
  have h96 : 96 < gN σ := by omega
  have h97 : 97 < gN σ := by omega
  have h98 : 98 < gN σ := by omega
  have h99 : 99 < gN σ := by omega
  have h100 : 100 < gN σ := by omega
  have h101 : 101 < gN σ := by omega
  have h102 : 102 < gN σ := by omega
  have h103 : 103 < gN σ := by omega
  have h104 : 104 < gN σ := by omega
  have h105 : 105 < gN σ := by omega
  refine Con_of_X (ls := [.ref 89]) rfl (Nat.le_of_ble_eq_true rfl) rfl ?_
  refine X_wp [] ck_X10_fault 8 ?_
  simp (decide := true) only [wp_s e_X10_fault_0, wp_s e_X10_fault_1, wp_s e_X10_fault_2, wp_s e_X10_fault_5, wp_s e_X10_fault_6, wp_s e_X10_fault_9, st_iadd, st_isub, st_imul, st_iand, st_ior, st_ishl, st_ishr, st_idiv, st_irem, st_ladd, st_lsub, st_lmul, st_lor, st_land, st_ldiv, st_lshl, st_lcmp, st_i2l, st_i2b, st_l2i, st_i2c, st_iconst, st_bipush, st_sipush, st_lconst, st_ldc2_w, st_ldc_w, st_ldcI, st_ldcS, st_iload, st_iload_n, st_lload, st_lload_n, st_aload, st_aload_n, st_istore, st_istore_n, st_lstore, st_lstore_n, st_astore, st_astore_n, st_iinc, st_dup, st_pop, st_dup2, st_ifCond, st_if_icmp, st_goto, st_getI, st_getL, st_getR, st_putI, st_putL, st_putR, st_putZ, st_sval, st_scod, st_baload, st_baloadS, st_alen, st_alenS, st_gets1, st_getsF, st_iaload, st_laload, st_aaload, st_iastore, st_lastore, st_bastoreB, st_bastoreZ, st_aastore, st_iret, st_zret, st_cret, st_bret, st_return_, st_areturn, st_invV, st_invVS, st_invS, st_invI, st_min, st_max, st_obj, st_new, st_newarray, st_anewarray, st_multianewarray, st_table, st_lookup, pI_c, pL_c, pR_c, p1_i, p1_r, p1_n, iI_0, iI_s, iL_0, iL_s, iR_0, iR_s, rfV_s, kc_c, kl_c, cats_0, cats_i, cats_l, cats_r, rcv_c, rcvS_c, isRefA_c, cl_0, cl_1, cl_2, cl_3, cl_4, cl_5, cl_6, cl_7, set1_0, set1_1i, set1_1r, set1_1n, set1_s, set2_s, set2_1i, set2_1r, set2_1n, toL_s, toL_n, cnd, and_self, true_and, and_true, true_or, or_true, List.contains_nil, List.contains_cons, Bool.or_false, beq_iff_eq, Nat.reduceBEq, Nat.reduceEqDiff, Nat.reduceAdd, Nat.reduceLeDiff, Nat.reduceSub, Bool.false_eq_true, if_false, if_true, Nat.zero_le, Nat.add_zero, Nat.zero_add, Nat.le_refl, gN_sI, gN_sL, gN_sR, gR_sI, gR_sL, gR_sR, rtp, rx, rrd, rnm, rtk, row, rtm, rpd, rnt, rtn, rst, rwt, rgt, rlg, rlw, rlt, sh_89, sh_90, sh_91, sh_92, sh_93, sh_94, sh_95, sh_96, sh_97, sh_98, sh_99, sh_100, sh_101, sh_102, sh_103, sh_104, sh_105, h89, h90, h91, h92, h93, h94, h95, h96, h97, h98, h99, h100, h101, h102, h103, h104, h105, nI_add, vx0, vx1, vx2, vx3, vx4, vx5, cx0, cx1, cx2, cx3, cx4, cx5]
  simp (decide := true) only [gI_sI] 
  exact h
set_option maxRecDepth 10000 in
theorem C_X10_where (hR : RefAt σ) (h : Rt (some (.int (gI σ 89 2))) (sI σ 89 0 0)) : Con d q_X10_where 0 0 [.ref 89] σ Rt := by
  have hR0 := hR
  obtain ⟨hN, rtp, rx, rrd, rnm, rtk, row, rtm, rpd, rnt, rtn, rst, rwt, rgt, rlg, rlw, rlt⟩ := hR
  have h89 : 89 < gN σ := by omega
  have h90 : 90 < gN σ := by omega
  have h91 : 91 < gN σ := by omega
  have h92 : 92 < gN σ := by omega
  have h93 : 93 < gN σ := by omega
  have h94 : 94 < gN σ := by omega
  have h95 : 95 < gN σ := by omega
  have h96 : 96 < gN σ := by omega
  have h97 : 97 < gN σ := by omega
  have h98 : 98 < gN σ := by omega
  have h99 : 99 < gN σ := by omega
  have h100 : 100 < gN σ := by omega
  have h101 : 101 < gN σ := by omega
  have h102 : 102 < gN σ := by omega
  have h103 : 103 < gN σ := by omega
  have h104 : 104 < gN σ := by omega
  have h105 : 105 < gN σ := by omega
  refine Con_of_X (ls := [.ref 89]) rfl (Nat.le_of_ble_eq_true rfl) rfl ?_
  refine X_wp [] ck_X10_where 8 ?_
  simp (decide := true) only [wp_s e_X10_where_0, wp_s e_X10_where_1, wp_s e_X10_where_2, wp_s e_X10_where_5, wp_s e_X10_where_6, wp_s e_X10_where_9, st_iadd, st_isub, st_imul, st_iand, st_ior, st_ishl, st_ishr, st_idiv, st_irem, st_ladd, st_lsub, st_lmul, st_lor, st_land, st_ldiv, st_lshl, st_lcmp, st_i2l, st_i2b, st_l2i, st_i2c, st_iconst, st_bipush, st_sipush, st_lconst, st_ldc2_w, st_ldc_w, st_ldcI, st_ldcS, st_iload, st_iload_n, st_lload, st_lload_n, st_aload, st_aload_n, st_istore, st_istore_n, st_lstore, st_lstore_n, st_astore, st_astore_n, st_iinc, st_dup, st_pop, st_dup2, st_ifCond, st_if_icmp, st_goto, st_getI, st_getL, st_getR, st_putI, st_putL, st_putR, st_putZ, st_sval, st_scod, st_baload, st_baloadS, st_alen, st_alenS, st_gets1, st_getsF, st_iaload, st_laload, st_aaload, st_iastore, st_lastore, st_bastoreB, st_bastoreZ, st_aastore, st_iret, st_zret, st_cret, st_bret, st_return_, st_areturn, st_invV, st_invVS, st_invS, st_invI, st_min, st_max, st_obj, st_new, st_newarray, st_anewarray, st_multianewarray, st_table, st_lookup, pI_c, pL_c, pR_c, p1_i, p1_r, p1_n, iI_0, iI_s, iL_0, iL_s, iR_0, iR_s, rfV_s, kc_c, kl_c, cats_0, cats_i, cats_l, cats_r, rcv_c, rcvS_c, isRefA_c, cl_0, cl_1, cl_2, cl_3, cl_4, cl_5, cl_6, cl_7, set1_0, set1_1i, set1_1r, set1_1n, set1_s, set2_s, set2_1i, set2_1r, set2_1n, toL_s, toL_n, cnd, and_self, true_and, and_true, true_or, or_true, List.contains_nil, List.contains_cons, Bool.or_false, beq_iff_eq, Nat.reduceBEq, Nat.reduceEqDiff, Nat.reduceAdd, Nat.reduceLeDiff, Nat.reduceSub, Bool.false_eq_true, if_false, if_true, Nat.zero_le, Nat.add_zero, Nat.zero_add, Nat.le_refl, gN_sI, gN_sL, gN_sR, gR_sI, gR_sL, gR_sR, rtp, rx, rrd, rnm, rtk, row, rtm, rpd, rnt, rtn, rst, rwt, rgt, rlg, rlw, rlt, sh_89, sh_90, sh_91, sh_92, sh_93, sh_94, sh_95, sh_96, sh_97, sh_98, sh_99, sh_100, sh_101, sh_102, sh_103, sh_104, sh_105, h89, h90, h91, h92, h93, h94, h95, h96, h97, h98, h99, h100, h101, h102, h103, h104, h105, nI_add, vx0, vx1, vx2, vx3, vx4, vx5, cx0, cx1, cx2, cx3, cx4, cx5]
  simp (decide := true) only [gI_sI] 
  exact h
set_option maxRecDepth 10000 in
theorem C_X10_size (hR : RefAt σ) (h : Rt (some (.int (gI σ 89 4))) (sI σ 89 0 0)) : Con d q_X10_size 0 0 [.ref 89] σ Rt := by
  have hR0 := hR
  obtain ⟨hN, rtp, rx, rrd, rnm, rtk, row, rtm, rpd, rnt, rtn, rst, rwt, rgt, rlg, rlw, rlt⟩ := hR
  have h89 : 89 < gN σ := by omega
  have h90 : 90 < gN σ := by omega
  have h91 : 91 < gN σ := by omega
  have h92 : 92 < gN σ := by omega
  have h93 : 93 < gN σ := by omega
  have h94 : 94 < gN σ := by omega
  have h95 : 95 < gN σ := by omega
  have h96 : 96 < gN σ := by omega
  have h97 : 97 < gN σ := by omega
  have h98 : 98 < gN σ := by omega
  have h99 : 99 < gN σ := by omega
  have h100 : 100 < gN σ := by omega
  have h101 : 101 < gN σ := by omega
  have h102 : 102 < gN σ := by omega
  have h103 : 103 < gN σ := by omega
  have h104 : 104 < gN σ := by omega
  have h105 : 105 < gN σ := by omega
  refine Con_of_X (ls := [.ref 89]) rfl (Nat.le_of_ble_eq_true rfl) rfl ?_
  refine X_wp [] ck_X10_size 8 ?_
  simp (decide := true) only [wp_s e_X10_size_0, wp_s e_X10_size_1, wp_s e_X10_size_2, wp_s e_X10_size_5, wp_s e_X10_size_6, wp_s e_X10_size_9, st_iadd, st_isub, st_imul, st_iand, st_ior, st_ishl, st_ishr, st_idiv, st_irem, st_ladd, st_lsub, st_lmul, st_lor, st_land, st_ldiv, st_lshl, st_lcmp, st_i2l, st_i2b, st_l2i, st_i2c, st_iconst, st_bipush, st_sipush, st_lconst, st_ldc2_w, st_ldc_w, st_ldcI, st_ldcS, st_iload, st_iload_n, st_lload, st_lload_n, st_aload, st_aload_n, st_istore, st_istore_n, st_lstore, st_lstore_n, st_astore, st_astore_n, st_iinc, st_dup, st_pop, st_dup2, st_ifCond, st_if_icmp, st_goto, st_getI, st_getL, st_getR, st_putI, st_putL, st_putR, st_putZ, st_sval, st_scod, st_baload, st_baloadS, st_alen, st_alenS, st_gets1, st_getsF, st_iaload, st_laload, st_aaload, st_iastore, st_lastore, st_bastoreB, st_bastoreZ, st_aastore, st_iret, st_zret, st_cret, st_bret, st_return_, st_areturn, st_invV, st_invVS, st_invS, st_invI, st_min, st_max, st_obj, st_new, st_newarray, st_anewarray, st_multianewarray, st_table, st_lookup, pI_c, pL_c, pR_c, p1_i, p1_r, p1_n, iI_0, iI_s, iL_0, iL_s, iR_0, iR_s, rfV_s, kc_c, kl_c, cats_0, cats_i, cats_l, cats_r, rcv_c, rcvS_c, isRefA_c, cl_0, cl_1, cl_2, cl_3, cl_4, cl_5, cl_6, cl_7, set1_0, set1_1i, set1_1r, set1_1n, set1_s, set2_s, set2_1i, set2_1r, set2_1n, toL_s, toL_n, cnd, and_self, true_and, and_true, true_or, or_true, List.contains_nil, List.contains_cons, Bool.or_false, beq_iff_eq, Nat.reduceBEq, Nat.reduceEqDiff, Nat.reduceAdd, Nat.reduceLeDiff, Nat.reduceSub, Bool.false_eq_true, if_false, if_true, Nat.zero_le, Nat.add_zero, Nat.zero_add, Nat.le_refl, gN_sI, gN_sL, gN_sR, gR_sI, gR_sL, gR_sR, rtp, rx, rrd, rnm, rtk, row, rtm, rpd, rnt, rtn, rst, rwt, rgt, rlg, rlw, rlt, sh_89, sh_90, sh_91, sh_92, sh_93, sh_94, sh_95, sh_96, sh_97, sh_98, sh_99, sh_100, sh_101, sh_102, sh_103, sh_104, sh_105, h89, h90, h91, h92, h93, h94, h95, h96, h97, h98, h99, h100, h101, h102, h103, h104, h105, nI_add, vx0, vx1, vx2, vx3, vx4, vx5, cx0, cx1, cx2, cx3, cx4, cx5]
  simp (decide := true) only [gI_sI] 
  exact h
set_option maxRecDepth 10000 in
theorem C_X10_trouble (hR : RefAt σ) (h : Rt (some (.int (gI σ 89 1))) (sI σ 89 0 0)) : Con d q_X10_trouble 0 0 [.ref 89] σ Rt := by
  have hR0 := hR
  obtain ⟨hN, rtp, rx, rrd, rnm, rtk, row, rtm, rpd, rnt, rtn, rst, rwt, rgt, rlg, rlw, rlt⟩ := hR
  have h89 : 89 < gN σ := by omega
  have h90 : 90 < gN σ := by omega
  have h91 : 91 < gN σ := by omega
  have h92 : 92 < gN σ := by omega
  have h93 : 93 < gN σ := by omega
  have h94 : 94 < gN σ := by omega
  have h95 : 95 < gN σ := by omega
  have h96 : 96 < gN σ := by omega
  have h97 : 97 < gN σ := by omega
  have h98 : 98 < gN σ := by omega
  have h99 : 99 < gN σ := by omega
  have h100 : 100 < gN σ := by omega
  have h101 : 101 < gN σ := by omega
  have h102 : 102 < gN σ := by omega
  have h103 : 103 < gN σ := by omega
  have h104 : 104 < gN σ := by omega
  have h105 : 105 < gN σ := by omega
  refine Con_of_X (ls := [.ref 89]) rfl (Nat.le_of_ble_eq_true rfl) rfl ?_
  refine X_wp [] ck_X10_trouble 8 ?_
  simp (decide := true) only [wp_s e_X10_trouble_0, wp_s e_X10_trouble_1, wp_s e_X10_trouble_2, wp_s e_X10_trouble_5, wp_s e_X10_trouble_6, wp_s e_X10_trouble_9, st_iadd, st_isub, st_imul, st_iand, st_ior, st_ishl, st_ishr, st_idiv, st_irem, st_ladd, st_lsub, st_lmul, st_lor, st_land, st_ldiv, st_lshl, st_lcmp, st_i2l, st_i2b, st_l2i, st_i2c, st_iconst, st_bipush, st_sipush, st_lconst, st_ldc2_w, st_ldc_w, st_ldcI, st_ldcS, st_iload, st_iload_n, st_lload, st_lload_n, st_aload, st_aload_n, st_istore, st_istore_n, st_lstore, st_lstore_n, st_astore, st_astore_n, st_iinc, st_dup, st_pop, st_dup2, st_ifCond, st_if_icmp, st_goto, st_getI, st_getL, st_getR, st_putI, st_putL, st_putR, st_putZ, st_sval, st_scod, st_baload, st_baloadS, st_alen, st_alenS, st_gets1, st_getsF, st_iaload, st_laload, st_aaload, st_iastore, st_lastore, st_bastoreB, st_bastoreZ, st_aastore, st_iret, st_zret, st_cret, st_bret, st_return_, st_areturn, st_invV, st_invVS, st_invS, st_invI, st_min, st_max, st_obj, st_new, st_newarray, st_anewarray, st_multianewarray, st_table, st_lookup, pI_c, pL_c, pR_c, p1_i, p1_r, p1_n, iI_0, iI_s, iL_0, iL_s, iR_0, iR_s, rfV_s, kc_c, kl_c, cats_0, cats_i, cats_l, cats_r, rcv_c, rcvS_c, isRefA_c, cl_0, cl_1, cl_2, cl_3, cl_4, cl_5, cl_6, cl_7, set1_0, set1_1i, set1_1r, set1_1n, set1_s, set2_s, set2_1i, set2_1r, set2_1n, toL_s, toL_n, cnd, and_self, true_and, and_true, true_or, or_true, List.contains_nil, List.contains_cons, Bool.or_false, beq_iff_eq, Nat.reduceBEq, Nat.reduceEqDiff, Nat.reduceAdd, Nat.reduceLeDiff, Nat.reduceSub, Bool.false_eq_true, if_false, if_true, Nat.zero_le, Nat.add_zero, Nat.zero_add, Nat.le_refl, gN_sI, gN_sL, gN_sR, gR_sI, gR_sL, gR_sR, rtp, rx, rrd, rnm, rtk, row, rtm, rpd, rnt, rtn, rst, rwt, rgt, rlg, rlw, rlt, sh_89, sh_90, sh_91, sh_92, sh_93, sh_94, sh_95, sh_96, sh_97, sh_98, sh_99, sh_100, sh_101, sh_102, sh_103, sh_104, sh_105, h89, h90, h91, h92, h93, h94, h95, h96, h97, h98, h99, h100, h101, h102, h103, h104, h105, nI_add, vx0, vx1, vx2, vx3, vx4, vx5, cx0, cx1, cx2, cx3, cx4, cx5]
  simp (decide := true) only [gI_sI] 
  exact h
end RLEAF
