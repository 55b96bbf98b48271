/-- owed and took with other rows in their place -/
def wr2 (σ : St) (A B : Nat → Int32) : St := (fun a b => if a = 95 then A b else if a = 94 then B b else σ.1 a b, σ.2)
def uF (f : Nat → Int32) (t : Nat) (g : Nat → Int32) : Nat → Nat → Int32
  | 0 => f
  | n + 1 => upd (uF f t g n) (t + n) (g n)
/-- a week: the first n orders -/
def wkF (σ : St) (t : Nat) : Nat → Nat → Int32
  | 0 => gI σ 95
  | n + 1 => if gI σ 91 (69 + n) = 0 ∧ rLive σ t n = true then upd (wkF σ t n) (t + n) (leI (rRest σ t n) (gI σ 95 (t + n) + gI σ 91 (75 + n))) else wkF σ t n
section RPAYS
variable {d t p n o n0 : Nat} {σ : St} {Rt : Option Value → St → Prop} {net : Int32} {A B : Nat → Int32}
theorem gR_wr2 : gR (wr2 σ A B) = gR σ := rfl
theorem gN_wr2 : gN (wr2 σ A B) = gN σ := rfl
theorem gI_wr2_95 : gI (wr2 σ A B) 95 = A := rfl
theorem gI_wr2_94 : gI (wr2 σ A B) 94 = B := rfl
theorem gI_wr2_91 : gI (wr2 σ A B) 91 = gI σ 91 := rfl
theorem gI_wr2_100 : gI (wr2 σ A B) 100 = gI σ 100 := rfl
theorem gI_wr2_101 : gI (wr2 σ A B) 101 = gI σ 101 := rfl
theorem gI_wr2_102 : gI (wr2 σ A B) 102 = gI σ 102 := rfl
theorem RefAt_wr2 (h : RefAt σ) : RefAt (wr2 σ A B) := h
theorem wr2_id : wr2 σ (gI σ 95) (gI σ 94) = σ := by
  refine congrArg (fun z => (z, σ.2)) ?_
  funext a b
  by_cases h1 : a = 95
  · subst h1; simp [gI]
  · by_cases h2 : a = 94
    · subst h2; simp [gI]
    · simp [h1, h2]
theorem wr2_95 {x : Int32} {j : Nat} : sI (wr2 σ A B) 95 j x = wr2 σ (upd A j x) B := by
  refine congrArg (fun z => (z, σ.2)) ?_
  funext a b
  show u2 (wr2 σ A B).1 95 j x a b = (if a = 95 then upd A j x b else if a = 94 then B b else σ.1 a b)
  by_cases h1 : a = 95
  · subst h1
    by_cases h2 : b = j
    · subst h2; simp [u2, upd]
    · simp [u2, upd, h2, wr2]
  · simp [u2, h1, wr2]
theorem wr2_94 {x : Int32} {j : Nat} : sI (wr2 σ A B) 94 j x = wr2 σ A (upd B j x) := by
  refine congrArg (fun z => (z, σ.2)) ?_
  funext a b
  show u2 (wr2 σ A B).1 94 j x a b = (if a = 95 then A b else if a = 94 then upd B j x b else σ.1 a b)
  by_cases h1 : a = 94
  · subst h1
    by_cases h2 : b = j
    · subst h2; simp [u2, upd]
    · simp [u2, upd, h2, wr2]
  · simp [u2, h1, wr2]
theorem uF_at {f g : Nat → Int32} : ∀ (n j : Nat), t + n ≤ j → uF f t g n j = f j
  | 0, _, _ => rfl
  | n + 1, j, h => by
    show upd (uF f t g n) (t + n) (g n) j = f j
    rw [pk_un (by omega)]
    exact uF_at n j (by omega)
theorem wkF_at : ∀ (n j : Nat), t + n ≤ j → wkF σ t n j = gI σ 95 j
  | 0, _, _ => rfl
  | n + 1, j, h => by
    rw [wkF]
    split
    · rw [pk_un (by omega)]
      exact wkF_at n j (by omega)
    · exact wkF_at n j (by omega)
theorem rOwed_wr2 (hA : A (t + o) = gI σ 95 (t + o)) (hB : B (t + o) = gI σ 94 (t + o)) : rOwed (wr2 σ A B) t o p = rOwed σ t o p := by
  have hr : rRest (wr2 σ A B) t o = rRest σ t o := by
    unfold rRest
    rw [gI_wr2_91, gI_wr2_94, hB]
  have hl : rLive (wr2 σ A B) t o = rLive σ t o := decide_eq_decide.mpr (by rw [hr]; exact Iff.rfl)
  show (if rLive (wr2 σ A B) t o && rAt σ o (nI p) then (if gI σ 91 (69 + o) = 0 then A (t + o) - gI σ 102 o else gI σ 101 o - gI σ 102 o) else A (t + o)) = _
  rw [hl, hA]
  rfl
theorem rLive_wr2 : rLive (wr2 σ A (gI σ 94)) t o = rLive σ t o := rfl
theorem rRest_wr2 : rRest (wr2 σ A (gI σ 94)) t o = rRest σ t o := rfl
set_option maxRecDepth 10000 in
theorem C_X10_week (hd : 2 ≤ d) (hR : RefAt σ) (hn : n ≤ 6) (hc : gI σ 91 5 = nI n) (ht : t = 0 ∨ t = 6) (h : Rt none (wr2 σ (wkF σ t n) (gI σ 94))) : Con d q_X10_week 0 0 [.ref 89, .int (nI t)] σ Rt := by
  have hR0 := hR
  obtain ⟨hN, rtp, rx, rrd, rnm, rtk, row, rtm, rpd, rnt, rtn, rst, rwt, rgt, rlg, rlw, rlt⟩ := hR
  have h89 : 89 < gN σ := by omega
  have h90 : 90 < gN σ := by omega
  have h91 : 91 < gN σ := by omega
  have h92 : 92 < gN σ := by omega
  have h93 : 93 < gN σ := by omega
  have h94 : 94 < gN σ := by omega
  have h95 : 95 < gN σ := by omega
  have h96 : 96 < gN σ := by omega
  have h97 : 97 < gN σ := by omega
  have h98 : 98 < gN σ := by omega
  have h99 : 99 < gN σ := by omega
  have h100 : 100 < gN σ := by omega
  have h101 : 101 < gN σ := by omega
  have h102 : 102 < gN σ := by omega
  have h103 : 103 < gN σ := by omega
  have h104 : 104 < gN σ := by omega
  have h105 : 105 < gN σ := by omega
  have hd0 : 0 < d := by omega
  refine Con_of_X (ls := [.ref 89, .int (nI t), .null]) rfl (Nat.le_of_ble_eq_true rfl) rfl ?_
  refine X_wp [2] ck_X10_week 49 ?_
  simp (decide := true) only [wp_s e_X10_week_0, wp_s e_X10_week_1, wp_s e_X10_week_2, wp_s e_X10_week_3, wp_s e_X10_week_4, wp_s e_X10_week_7, wp_s e_X10_week_8, wp_s e_X10_week_9, wp_s e_X10_week_12, wp_s e_X10_week_13, wp_s e_X10_week_16, wp_s e_X10_week_18, wp_s e_X10_week_19, wp_s e_X10_week_20, wp_s e_X10_week_21, wp_s e_X10_week_24, wp_s e_X10_week_25, wp_s e_X10_week_26, wp_s e_X10_week_27, wp_s e_X10_week_30, wp_s e_X10_week_33, wp_s e_X10_week_34, wp_s e_X10_week_37, wp_s e_X10_week_38, wp_s e_X10_week_39, wp_s e_X10_week_40, wp_s e_X10_week_41, wp_s e_X10_week_42, wp_s e_X10_week_43, wp_s e_X10_week_46, wp_s e_X10_week_47, wp_s e_X10_week_50, wp_s e_X10_week_51, wp_s e_X10_week_52, wp_s e_X10_week_53, wp_s e_X10_week_54, wp_s e_X10_week_55, wp_s e_X10_week_58, wp_s e_X10_week_60, wp_s e_X10_week_61, wp_s e_X10_week_62, wp_s e_X10_week_63, wp_s e_X10_week_64, wp_s e_X10_week_67, wp_s e_X10_week_68, wp_s e_X10_week_71, wp_s e_X10_week_74, st_iadd, st_isub, st_imul, st_iand, st_ior, st_ishl, st_ishr, st_idiv, st_irem, st_ladd, st_lsub, st_lmul, st_lor, st_land, st_ldiv, st_lshl, st_lcmp, st_i2l, st_i2b, st_l2i, st_i2c, st_iconst, st_bipush, st_sipush, st_lconst, st_ldc2_w, st_ldc_w, st_ldcI, st_ldcS, st_iload, st_iload_n, st_lload, st_lload_n, st_aload, st_aload_n, st_istore, st_istore_n, st_lstore, st_lstore_n, st_astore, st_astore_n, st_iinc, st_dup, st_pop, st_dup2, st_ifCond, st_if_icmp, st_goto, st_getI, st_getL, st_getR, st_putI, st_putL, st_putR, st_putZ, st_sval, st_scod, st_baload, st_baloadS, st_alen, st_alenS, st_gets1, st_getsF, st_iaload, st_laload, st_aaload, st_iastore, st_lastore, st_bastoreB, st_bastoreZ, st_aastore, st_iret, st_zret, st_cret, st_bret, st_return_, st_areturn, st_invV, st_invVS, st_invS, st_invI, st_min, st_max, st_obj, st_new, st_newarray, st_anewarray, st_multianewarray, st_table, st_lookup, pI_c, pL_c, pR_c, p1_i, p1_r, p1_n, iI_0, iI_s, iL_0, iL_s, iR_0, iR_s, rfV_s, kc_c, kl_c, cats_0, cats_i, cats_l, cats_r, rcv_c, rcvS_c, isRefA_c, cl_0, cl_1, cl_2, cl_3, cl_4, cl_5, cl_6, cl_7, set1_0, set1_1i, set1_1r, set1_1n, set1_s, set2_s, set2_1i, set2_1r, set2_1n, toL_s, toL_n, cnd, and_self, true_and, and_true, true_or, or_true, List.contains_nil, List.contains_cons, Bool.or_false, beq_iff_eq, Nat.reduceBEq, Nat.reduceEqDiff, Nat.reduceAdd, Nat.reduceLeDiff, Nat.reduceSub, Bool.false_eq_true, if_false, if_true, Nat.zero_le, Nat.add_zero, Nat.zero_add, Nat.le_refl, gN_sI, gN_sL, gN_sR, gR_sI, gR_sL, gR_sR, rtp, rx, rrd, rnm, rtk, row, rtm, rpd, rnt, rtn, rst, rwt, rgt, rlg, rlw, rlt, sh_89, sh_90, sh_91, sh_92, sh_93, sh_94, sh_95, sh_96, sh_97, sh_98, sh_99, sh_100, sh_101, sh_102, sh_103, sh_104, sh_105, h89, h90, h91, h92, h93, h94, h95, h96, h97, h98, h99, h100, h101, h102, h103, h104, h105, nI_add, vx0, vx1, vx2, vx3, vx4, vx5, cx0, cx1, cx2, cx3, cx4, cx5, hd0, hc, gR_wr2, gN_wr2, gI_wr2_95, gI_wr2_94, gI_wr2_91, gI_wr2_100, gI_wr2_101, gI_wr2_102, @lit_add 69, @lit_add 75]
  suffices hh : ∀ (j o : Nat), o + j = n → X d q_X10_week (gN σ) 0 0 Rt 2 0 0 [.ref 89, .int (nI t), .int (nI o)] [] (wr2 σ (wkF σ t o) (gI σ 94)) by
    have h0 := hh n 0 (by omega)
    rw [show wkF σ t 0 = gI σ 95 from rfl, wr2_id] at h0
    exact h0
  intro j
  induction j with
  | zero =>
    intro o ho
    obtain rfl : o = n := by omega
    refine X_wp [2] ck_X10_week 49 ?_
    simp (decide := true) only [wp_s e_X10_week_0, wp_s e_X10_week_1, wp_s e_X10_week_2, wp_s e_X10_week_3, wp_s e_X10_week_4, wp_s e_X10_week_7, wp_s e_X10_week_8, wp_s e_X10_week_9, wp_s e_X10_week_12, wp_s e_X10_week_13, wp_s e_X10_week_16, wp_s e_X10_week_18, wp_s e_X10_week_19, wp_s e_X10_week_20, wp_s e_X10_week_21, wp_s e_X10_week_24, wp_s e_X10_week_25, wp_s e_X10_week_26, wp_s e_X10_week_27, wp_s e_X10_week_30, wp_s e_X10_week_33, wp_s e_X10_week_34, wp_s e_X10_week_37, wp_s e_X10_week_38, wp_s e_X10_week_39, wp_s e_X10_week_40, wp_s e_X10_week_41, wp_s e_X10_week_42, wp_s e_X10_week_43, wp_s e_X10_week_46, wp_s e_X10_week_47, wp_s e_X10_week_50, wp_s e_X10_week_51, wp_s e_X10_week_52, wp_s e_X10_week_53, wp_s e_X10_week_54, wp_s e_X10_week_55, wp_s e_X10_week_58, wp_s e_X10_week_60, wp_s e_X10_week_61, wp_s e_X10_week_62, wp_s e_X10_week_63, wp_s e_X10_week_64, wp_s e_X10_week_67, wp_s e_X10_week_68, wp_s e_X10_week_71, wp_s e_X10_week_74, st_iadd, st_isub, st_imul, st_iand, st_ior, st_ishl, st_ishr, st_idiv, st_irem, st_ladd, st_lsub, st_lmul, st_lor, st_land, st_ldiv, st_lshl, st_lcmp, st_i2l, st_i2b, st_l2i, st_i2c, st_iconst, st_bipush, st_sipush, st_lconst, st_ldc2_w, st_ldc_w, st_ldcI, st_ldcS, st_iload, st_iload_n, st_lload, st_lload_n, st_aload, st_aload_n, st_istore, st_istore_n, st_lstore, st_lstore_n, st_astore, st_astore_n, st_iinc, st_dup, st_pop, st_dup2, st_ifCond, st_if_icmp, st_goto, st_getI, st_getL, st_getR, st_putI, st_putL, st_putR, st_putZ, st_sval, st_scod, st_baload, st_baloadS, st_alen, st_alenS, st_gets1, st_getsF, st_iaload, st_laload, st_aaload, st_iastore, st_lastore, st_bastoreB, st_bastoreZ, st_aastore, st_iret, st_zret, st_cret, st_bret, st_return_, st_areturn, st_invV, st_invVS, st_invS, st_invI, st_min, st_max, st_obj, st_new, st_newarray, st_anewarray, st_multianewarray, st_table, st_lookup, pI_c, pL_c, pR_c, p1_i, p1_r, p1_n, iI_0, iI_s, iL_0, iL_s, iR_0, iR_s, rfV_s, kc_c, kl_c, cats_0, cats_i, cats_l, cats_r, rcv_c, rcvS_c, isRefA_c, cl_0, cl_1, cl_2, cl_3, cl_4, cl_5, cl_6, cl_7, set1_0, set1_1i, set1_1r, set1_1n, set1_s, set2_s, set2_1i, set2_1r, set2_1n, toL_s, toL_n, cnd, and_self, true_and, and_true, true_or, or_true, List.contains_nil, List.contains_cons, Bool.or_false, beq_iff_eq, Nat.reduceBEq, Nat.reduceEqDiff, Nat.reduceAdd, Nat.reduceLeDiff, Nat.reduceSub, Bool.false_eq_true, if_false, if_true, Nat.zero_le, Nat.add_zero, Nat.zero_add, Nat.le_refl, gN_sI, gN_sL, gN_sR, gR_sI, gR_sL, gR_sR, rtp, rx, rrd, rnm, rtk, row, rtm, rpd, rnt, rtn, rst, rwt, rgt, rlg, rlw, rlt, sh_89, sh_90, sh_91, sh_92, sh_93, sh_94, sh_95, sh_96, sh_97, sh_98, sh_99, sh_100, sh_101, sh_102, sh_103, sh_104, sh_105, h89, h90, h91, h92, h93, h94, h95, h96, h97, h98, h99, h100, h101, h102, h103, h104, h105, nI_add, vx0, vx1, vx2, vx3, vx4, vx5, cx0, cx1, cx2, cx3, cx4, cx5, hd0, hc, gR_wr2, gN_wr2, gI_wr2_95, gI_wr2_94, gI_wr2_91, gI_wr2_100, gI_wr2_101, gI_wr2_102, @lit_add 69, @lit_add 75]
    exact ⟨fun _ => h, fun c => absurd (nI_le (Nat.le_refl o) (by omega)) c⟩
  | succ j ih =>
    intro o ho
    have v1 : vp_in (nI (69 + o)) 100 := vp_in_nI (by omega) (by omega)
    have k1 : (nI (69 + o)).toNatClampNeg = 69 + o := nI_clamp (by omega)
    have v2 : vp_in (nI (75 + o)) 100 := vp_in_nI (by omega) (by omega)
    have k2 : (nI (75 + o)).toNatClampNeg = 75 + o := nI_clamp (by omega)
    have v3 : vp_in (nI (t + o)) 12 := vp_in_nI (by omega) (by omega)
    have k3 : (nI (t + o)).toNatClampNeg = t + o := nI_clamp (by omega)
    have ih1 := ih (o + 1) (by omega)
    rw [wkF] at ih1
    refine X_wp [2] ck_X10_week 49 ?_
    simp (decide := true) only [wp_s e_X10_week_0, wp_s e_X10_week_1, wp_s e_X10_week_2, wp_s e_X10_week_3, wp_s e_X10_week_4, wp_s e_X10_week_7, wp_s e_X10_week_8, wp_s e_X10_week_9, wp_s e_X10_week_12, wp_s e_X10_week_13, wp_s e_X10_week_16, wp_s e_X10_week_18, wp_s e_X10_week_19, wp_s e_X10_week_20, wp_s e_X10_week_21, wp_s e_X10_week_24, wp_s e_X10_week_25, wp_s e_X10_week_26, wp_s e_X10_week_27, wp_s e_X10_week_30, wp_s e_X10_week_33, wp_s e_X10_week_34, wp_s e_X10_week_37, wp_s e_X10_week_38, wp_s e_X10_week_39, wp_s e_X10_week_40, wp_s e_X10_week_41, wp_s e_X10_week_42, wp_s e_X10_week_43, wp_s e_X10_week_46, wp_s e_X10_week_47, wp_s e_X10_week_50, wp_s e_X10_week_51, wp_s e_X10_week_52, wp_s e_X10_week_53, wp_s e_X10_week_54, wp_s e_X10_week_55, wp_s e_X10_week_58, wp_s e_X10_week_60, wp_s e_X10_week_61, wp_s e_X10_week_62, wp_s e_X10_week_63, wp_s e_X10_week_64, wp_s e_X10_week_67, wp_s e_X10_week_68, wp_s e_X10_week_71, wp_s e_X10_week_74, st_iadd, st_isub, st_imul, st_iand, st_ior, st_ishl, st_ishr, st_idiv, st_irem, st_ladd, st_lsub, st_lmul, st_lor, st_land, st_ldiv, st_lshl, st_lcmp, st_i2l, st_i2b, st_l2i, st_i2c, st_iconst, st_bipush, st_sipush, st_lconst, st_ldc2_w, st_ldc_w, st_ldcI, st_ldcS, st_iload, st_iload_n, st_lload, st_lload_n, st_aload, st_aload_n, st_istore, st_istore_n, st_lstore, st_lstore_n, st_astore, st_astore_n, st_iinc, st_dup, st_pop, st_dup2, st_ifCond, st_if_icmp, st_goto, st_getI, st_getL, st_getR, st_putI, st_putL, st_putR, st_putZ, st_sval, st_scod, st_baload, st_baloadS, st_alen, st_alenS, st_gets1, st_getsF, st_iaload, st_laload, st_aaload, st_iastore, st_lastore, st_bastoreB, st_bastoreZ, st_aastore, st_iret, st_zret, st_cret, st_bret, st_return_, st_areturn, st_invV, st_invVS, st_invS, st_invI, st_min, st_max, st_obj, st_new, st_newarray, st_anewarray, st_multianewarray, st_table, st_lookup, pI_c, pL_c, pR_c, p1_i, p1_r, p1_n, iI_0, iI_s, iL_0, iL_s, iR_0, iR_s, rfV_s, kc_c, kl_c, cats_0, cats_i, cats_l, cats_r, rcv_c, rcvS_c, isRefA_c, cl_0, cl_1, cl_2, cl_3, cl_4, cl_5, cl_6, cl_7, set1_0, set1_1i, set1_1r, set1_1n, set1_s, set2_s, set2_1i, set2_1r, set2_1n, toL_s, toL_n, cnd, and_self, true_and, and_true, true_or, or_true, List.contains_nil, List.contains_cons, Bool.or_false, beq_iff_eq, Nat.reduceBEq, Nat.reduceEqDiff, Nat.reduceAdd, Nat.reduceLeDiff, Nat.reduceSub, Bool.false_eq_true, if_false, if_true, Nat.zero_le, Nat.add_zero, Nat.zero_add, Nat.le_refl, gN_sI, gN_sL, gN_sR, gR_sI, gR_sL, gR_sR, rtp, rx, rrd, rnm, rtk, row, rtm, rpd, rnt, rtn, rst, rwt, rgt, rlg, rlw, rlt, sh_89, sh_90, sh_91, sh_92, sh_93, sh_94, sh_95, sh_96, sh_97, sh_98, sh_99, sh_100, sh_101, sh_102, sh_103, sh_104, sh_105, h89, h90, h91, h92, h93, h94, h95, h96, h97, h98, h99, h100, h101, h102, h103, h104, h105, nI_add, vx0, vx1, vx2, vx3, vx4, vx5, cx0, cx1, cx2, cx3, cx4, cx5, hd0, hc, gR_wr2, gN_wr2, gI_wr2_95, gI_wr2_94, gI_wr2_91, gI_wr2_100, gI_wr2_101, gI_wr2_102, @lit_add 69, @lit_add 75, v1, k1, v2, k2, v3, k3, nI_1]
    refine ⟨fun c => absurd c (nI_ge (by omega) (by omega)), fun _ => ⟨fun c => ?_, fun c => C_X10_isLive (by omega) (RefAt_wr2 hR0) ht (by omega) ?_⟩⟩
    · rw [if_neg (fun z => c z.1)] at ih1
      exact ih1
    · (simp (decide := true) only [st_iadd, st_isub, st_imul, st_iand, st_ior, st_ishl, st_ishr, st_idiv, st_irem, st_ladd, st_lsub, st_lmul, st_lor, st_land, st_ldiv, st_lshl, st_lcmp, st_i2l, st_i2b, st_l2i, st_i2c, st_iconst, st_bipush, st_sipush, st_lconst, st_ldc2_w, st_ldc_w, st_ldcI, st_ldcS, st_iload, st_iload_n, st_lload, st_lload_n, st_aload, st_aload_n, st_istore, st_istore_n, st_lstore, st_lstore_n, st_astore, st_astore_n, st_iinc, st_dup, st_pop, st_dup2, st_ifCond, st_if_icmp, st_goto, st_getI, st_getL, st_getR, st_putI, st_putL, st_putR, st_putZ, st_sval, st_scod, st_baload, st_baloadS, st_alen, st_alenS, st_gets1, st_getsF, st_iaload, st_laload, st_aaload, st_iastore, st_lastore, st_bastoreB, st_bastoreZ, st_aastore, st_iret, st_zret, st_cret, st_bret, st_return_, st_areturn, st_invV, st_invVS, st_invS, st_invI, st_min, st_max, st_obj, st_new, st_newarray, st_anewarray, st_multianewarray, st_table, st_lookup, pI_c, pL_c, pR_c, p1_i, p1_r, p1_n, iI_0, iI_s, iL_0, iL_s, iR_0, iR_s, rfV_s, kc_c, kl_c, cats_0, cats_i, cats_l, cats_r, rcv_c, rcvS_c, isRefA_c, cl_0, cl_1, cl_2, cl_3, cl_4, cl_5, cl_6, cl_7, set1_0, set1_1i, set1_1r, set1_1n, set1_s, set2_s, set2_1i, set2_1r, set2_1n, toL_s, toL_n, cnd, and_self, true_and, and_true, true_or, or_true, List.contains_nil, List.contains_cons, Bool.or_false, beq_iff_eq, Nat.reduceBEq, Nat.reduceEqDiff, Nat.reduceAdd, Nat.reduceLeDiff, Nat.reduceSub, Bool.false_eq_true, if_false, if_true, Nat.zero_le, Nat.add_zero, Nat.zero_add, Nat.le_refl, gN_sI, gN_sL, gN_sR, gR_sI, gR_sL, gR_sR, rtp, rx, rrd, rnm, rtk, row, rtm, rpd, rnt, rtn, rst, rwt, rgt, rlg, rlw, rlt, sh_89, sh_90, sh_91, sh_92, sh_93, sh_94, sh_95, sh_96, sh_97, sh_98, sh_99, sh_100, sh_101, sh_102, sh_103, sh_104, sh_105, h89, h90, h91, h92, h93, h94, h95, h96, h97, h98, h99, h100, h101, h102, h103, h104, h105, nI_add, vx0, vx1, vx2, vx3, vx4, vx5, cx0, cx1, cx2, cx3, cx4, cx5, hd0, hc, gR_wr2, gN_wr2, gI_wr2_95, gI_wr2_94, gI_wr2_91, gI_wr2_100, gI_wr2_101, gI_wr2_102, @lit_add 69, @lit_add 75, v1, k1, v2, k2, v3, k3, nI_1, rLive_wr2]; try simp (decide := true) only [cats_0, cats_i, cats_r, cats_l, bI_0, bI_1, bI_01, true_and, and_true, and_self, Nat.zero_le, Nat.reduceAdd, Nat.reduceLeDiff])
      refine ⟨fun c2 => ?_, fun c2 => C_X10_restOf (RefAt_wr2 hR0) ht (by omega) ?_⟩
      · rw [if_neg (fun z => by rw [c2] at z; cases z.2)] at ih1
        exact ih1
      · (simp (decide := true) only [st_iadd, st_isub, st_imul, st_iand, st_ior, st_ishl, st_ishr, st_idiv, st_irem, st_ladd, st_lsub, st_lmul, st_lor, st_land, st_ldiv, st_lshl, st_lcmp, st_i2l, st_i2b, st_l2i, st_i2c, st_iconst, st_bipush, st_sipush, st_lconst, st_ldc2_w, st_ldc_w, st_ldcI, st_ldcS, st_iload, st_iload_n, st_lload, st_lload_n, st_aload, st_aload_n, st_istore, st_istore_n, st_lstore, st_lstore_n, st_astore, st_astore_n, st_iinc, st_dup, st_pop, st_dup2, st_ifCond, st_if_icmp, st_goto, st_getI, st_getL, st_getR, st_putI, st_putL, st_putR, st_putZ, st_sval, st_scod, st_baload, st_baloadS, st_alen, st_alenS, st_gets1, st_getsF, st_iaload, st_laload, st_aaload, st_iastore, st_lastore, st_bastoreB, st_bastoreZ, st_aastore, st_iret, st_zret, st_cret, st_bret, st_return_, st_areturn, st_invV, st_invVS, st_invS, st_invI, st_min, st_max, st_obj, st_new, st_newarray, st_anewarray, st_multianewarray, st_table, st_lookup, pI_c, pL_c, pR_c, p1_i, p1_r, p1_n, iI_0, iI_s, iL_0, iL_s, iR_0, iR_s, rfV_s, kc_c, kl_c, cats_0, cats_i, cats_l, cats_r, rcv_c, rcvS_c, isRefA_c, cl_0, cl_1, cl_2, cl_3, cl_4, cl_5, cl_6, cl_7, set1_0, set1_1i, set1_1r, set1_1n, set1_s, set2_s, set2_1i, set2_1r, set2_1n, toL_s, toL_n, cnd, and_self, true_and, and_true, true_or, or_true, List.contains_nil, List.contains_cons, Bool.or_false, beq_iff_eq, Nat.reduceBEq, Nat.reduceEqDiff, Nat.reduceAdd, Nat.reduceLeDiff, Nat.reduceSub, Bool.false_eq_true, if_false, if_true, Nat.zero_le, Nat.add_zero, Nat.zero_add, Nat.le_refl, gN_sI, gN_sL, gN_sR, gR_sI, gR_sL, gR_sR, rtp, rx, rrd, rnm, rtk, row, rtm, rpd, rnt, rtn, rst, rwt, rgt, rlg, rlw, rlt, sh_89, sh_90, sh_91, sh_92, sh_93, sh_94, sh_95, sh_96, sh_97, sh_98, sh_99, sh_100, sh_101, sh_102, sh_103, sh_104, sh_105, h89, h90, h91, h92, h93, h94, h95, h96, h97, h98, h99, h100, h101, h102, h103, h104, h105, nI_add, vx0, vx1, vx2, vx3, vx4, vx5, cx0, cx1, cx2, cx3, cx4, cx5, hd0, hc, gR_wr2, gN_wr2, gI_wr2_95, gI_wr2_94, gI_wr2_91, gI_wr2_100, gI_wr2_101, gI_wr2_102, @lit_add 69, @lit_add 75, v1, k1, v2, k2, v3, k3, nI_1, rRest_wr2]; try simp (decide := true) only [cats_0, cats_i, cats_r, cats_l, bI_0, bI_1, bI_01, true_and, and_true, and_self, Nat.zero_le, Nat.reduceAdd, Nat.reduceLeDiff])
        refine C_X10_lesser ?_
        (simp (decide := true) only [st_iadd, st_isub, st_imul, st_iand, st_ior, st_ishl, st_ishr, st_idiv, st_irem, st_ladd, st_lsub, st_lmul, st_lor, st_land, st_ldiv, st_lshl, st_lcmp, st_i2l, st_i2b, st_l2i, st_i2c, st_iconst, st_bipush, st_sipush, st_lconst, st_ldc2_w, st_ldc_w, st_ldcI, st_ldcS, st_iload, st_iload_n, st_lload, st_lload_n, st_aload, st_aload_n, st_istore, st_istore_n, st_lstore, st_lstore_n, st_astore, st_astore_n, st_iinc, st_dup, st_pop, st_dup2, st_ifCond, st_if_icmp, st_goto, st_getI, st_getL, st_getR, st_putI, st_putL, st_putR, st_putZ, st_sval, st_scod, st_baload, st_baloadS, st_alen, st_alenS, st_gets1, st_getsF, st_iaload, st_laload, st_aaload, st_iastore, st_lastore, st_bastoreB, st_bastoreZ, st_aastore, st_iret, st_zret, st_cret, st_bret, st_return_, st_areturn, st_invV, st_invVS, st_invS, st_invI, st_min, st_max, st_obj, st_new, st_newarray, st_anewarray, st_multianewarray, st_table, st_lookup, pI_c, pL_c, pR_c, p1_i, p1_r, p1_n, iI_0, iI_s, iL_0, iL_s, iR_0, iR_s, rfV_s, kc_c, kl_c, cats_0, cats_i, cats_l, cats_r, rcv_c, rcvS_c, isRefA_c, cl_0, cl_1, cl_2, cl_3, cl_4, cl_5, cl_6, cl_7, set1_0, set1_1i, set1_1r, set1_1n, set1_s, set2_s, set2_1i, set2_1r, set2_1n, toL_s, toL_n, cnd, and_self, true_and, and_true, true_or, or_true, List.contains_nil, List.contains_cons, Bool.or_false, beq_iff_eq, Nat.reduceBEq, Nat.reduceEqDiff, Nat.reduceAdd, Nat.reduceLeDiff, Nat.reduceSub, Bool.false_eq_true, if_false, if_true, Nat.zero_le, Nat.add_zero, Nat.zero_add, Nat.le_refl, gN_sI, gN_sL, gN_sR, gR_sI, gR_sL, gR_sR, rtp, rx, rrd, rnm, rtk, row, rtm, rpd, rnt, rtn, rst, rwt, rgt, rlg, rlw, rlt, sh_89, sh_90, sh_91, sh_92, sh_93, sh_94, sh_95, sh_96, sh_97, sh_98, sh_99, sh_100, sh_101, sh_102, sh_103, sh_104, sh_105, h89, h90, h91, h92, h93, h94, h95, h96, h97, h98, h99, h100, h101, h102, h103, h104, h105, nI_add, vx0, vx1, vx2, vx3, vx4, vx5, cx0, cx1, cx2, cx3, cx4, cx5, hd0, hc, gR_wr2, gN_wr2, gI_wr2_95, gI_wr2_94, gI_wr2_91, gI_wr2_100, gI_wr2_101, gI_wr2_102, @lit_add 69, @lit_add 75, v1, k1, v2, k2, v3, k3, nI_1]; try simp (decide := true) only [cats_0, cats_i, cats_r, cats_l, bI_0, bI_1, bI_01, true_and, and_true, and_self, Nat.zero_le, Nat.reduceAdd, Nat.reduceLeDiff])
        rw [if_pos ⟨Classical.not_not.mp c, by simpa using c2⟩] at ih1
        rw [wkF_at o (t + o) (by omega), wr2_95]
        exact ih1
set_option maxRecDepth 10000 in
theorem L_X10_pays_10 (hd : 3 ≤ d) (hR : RefAt σ) (hn : n ≤ 6) (hc : gI σ 91 5 = nI n) (ht : t = 0 ∨ t = 6) (h : Rt none (wr2 σ (uF (gI σ 95) t (fun o => rOwed σ t o p) n) (uF (gI σ 94) t (fun o => gI σ 94 (t + o) + gI σ 102 o) n))) : X d q_X10_pays n0 0 0 Rt 10 0 0 [.ref 89, .int (nI t), .int (nI p), .int net, .int 0] [] σ := by
  have hR0 := hR
  obtain ⟨hN, rtp, rx, rrd, rnm, rtk, row, rtm, rpd, rnt, rtn, rst, rwt, rgt, rlg, rlw, rlt⟩ := hR
  have h89 : 89 < gN σ := by omega
  have h90 : 90 < gN σ := by omega
  have h91 : 91 < gN σ := by omega
  have h92 : 92 < gN σ := by omega
  have h93 : 93 < gN σ := by omega
  have h94 : 94 < gN σ := by omega
  have h95 : 95 < gN σ := by omega
  have h96 : 96 < gN σ := by omega
  have h97 : 97 < gN σ := by omega
  have h98 : 98 < gN σ := by omega
  have h99 : 99 < gN σ := by omega
  have h100 : 100 < gN σ := by omega
  have h101 : 101 < gN σ := by omega
  have h102 : 102 < gN σ := by omega
  have h103 : 103 < gN σ := by omega
  have h104 : 104 < gN σ := by omega
  have h105 : 105 < gN σ := by omega
  have hd0 : 0 < d := by omega
  suffices hh : ∀ (j o : Nat), o + j = n → X d q_X10_pays n0 0 0 Rt 10 0 0 [.ref 89, .int (nI t), .int (nI p), .int net, .int (nI o)] [] (wr2 σ (uF (gI σ 95) t (fun o => rOwed σ t o p) o) (uF (gI σ 94) t (fun o => gI σ 94 (t + o) + gI σ 102 o) o)) by
    have h0 := hh n 0 (by omega)
    rw [show uF (gI σ 95) t (fun o => rOwed σ t o p) 0 = gI σ 95 from rfl, show uF (gI σ 94) t (fun o => gI σ 94 (t + o) + gI σ 102 o) 0 = gI σ 94 from rfl, wr2_id] at h0
    exact h0
  intro j
  induction j with
  | zero =>
    intro o ho
    obtain rfl : o = n := by omega
    refine X_wp [10] ck_X10_pays 42 ?_
    simp (decide := true) only [wp_s e_X10_pays_0, wp_s e_X10_pays_1, wp_s e_X10_pays_2, wp_s e_X10_pays_3, wp_s e_X10_pays_4, wp_s e_X10_pays_7, wp_s e_X10_pays_8, wp_s e_X10_pays_10, wp_s e_X10_pays_12, wp_s e_X10_pays_13, wp_s e_X10_pays_16, wp_s e_X10_pays_17, wp_s e_X10_pays_18, wp_s e_X10_pays_21, wp_s e_X10_pays_22, wp_s e_X10_pays_25, wp_s e_X10_pays_26, wp_s e_X10_pays_28, wp_s e_X10_pays_29, wp_s e_X10_pays_30, wp_s e_X10_pays_31, wp_s e_X10_pays_33, wp_s e_X10_pays_34, wp_s e_X10_pays_37, wp_s e_X10_pays_38, wp_s e_X10_pays_39, wp_s e_X10_pays_42, wp_s e_X10_pays_43, wp_s e_X10_pays_45, wp_s e_X10_pays_46, wp_s e_X10_pays_47, wp_s e_X10_pays_48, wp_s e_X10_pays_49, wp_s e_X10_pays_52, wp_s e_X10_pays_54, wp_s e_X10_pays_55, wp_s e_X10_pays_56, wp_s e_X10_pays_57, wp_s e_X10_pays_60, wp_s e_X10_pays_63, st_iadd, st_isub, st_imul, st_iand, st_ior, st_ishl, st_ishr, st_idiv, st_irem, st_ladd, st_lsub, st_lmul, st_lor, st_land, st_ldiv, st_lshl, st_lcmp, st_i2l, st_i2b, st_l2i, st_i2c, st_iconst, st_bipush, st_sipush, st_lconst, st_ldc2_w, st_ldc_w, st_ldcI, st_ldcS, st_iload, st_iload_n, st_lload, st_lload_n, st_aload, st_aload_n, st_istore, st_istore_n, st_lstore, st_lstore_n, st_astore, st_astore_n, st_iinc, st_dup, st_pop, st_dup2, st_ifCond, st_if_icmp, st_goto, st_getI, st_getL, st_getR, st_putI, st_putL, st_putR, st_putZ, st_sval, st_scod, st_baload, st_baloadS, st_alen, st_alenS, st_gets1, st_getsF, st_iaload, st_laload, st_aaload, st_iastore, st_lastore, st_bastoreB, st_bastoreZ, st_aastore, st_iret, st_zret, st_cret, st_bret, st_return_, st_areturn, st_invV, st_invVS, st_invS, st_invI, st_min, st_max, st_obj, st_new, st_newarray, st_anewarray, st_multianewarray, st_table, st_lookup, pI_c, pL_c, pR_c, p1_i, p1_r, p1_n, iI_0, iI_s, iL_0, iL_s, iR_0, iR_s, rfV_s, kc_c, kl_c, cats_0, cats_i, cats_l, cats_r, rcv_c, rcvS_c, isRefA_c, cl_0, cl_1, cl_2, cl_3, cl_4, cl_5, cl_6, cl_7, set1_0, set1_1i, set1_1r, set1_1n, set1_s, set2_s, set2_1i, set2_1r, set2_1n, toL_s, toL_n, cnd, and_self, true_and, and_true, true_or, or_true, List.contains_nil, List.contains_cons, Bool.or_false, beq_iff_eq, Nat.reduceBEq, Nat.reduceEqDiff, Nat.reduceAdd, Nat.reduceLeDiff, Nat.reduceSub, Bool.false_eq_true, if_false, if_true, Nat.zero_le, Nat.add_zero, Nat.zero_add, Nat.le_refl, gN_sI, gN_sL, gN_sR, gR_sI, gR_sL, gR_sR, rtp, rx, rrd, rnm, rtk, row, rtm, rpd, rnt, rtn, rst, rwt, rgt, rlg, rlw, rlt, sh_89, sh_90, sh_91, sh_92, sh_93, sh_94, sh_95, sh_96, sh_97, sh_98, sh_99, sh_100, sh_101, sh_102, sh_103, sh_104, sh_105, h89, h90, h91, h92, h93, h94, h95, h96, h97, h98, h99, h100, h101, h102, h103, h104, h105, nI_add, vx0, vx1, vx2, vx3, vx4, vx5, cx0, cx1, cx2, cx3, cx4, cx5, hd0, hc, gR_wr2, gN_wr2, gI_wr2_95, gI_wr2_94, gI_wr2_91, gI_wr2_100, gI_wr2_101, gI_wr2_102, @lit_add 69, @lit_add 75]
    exact ⟨fun _ => h, fun c => absurd (nI_le (Nat.le_refl o) (by omega)) c⟩
  | succ j ih =>
    intro o ho
    have hcl : (nI o).toNatClampNeg = o := nI_clamp (by omega)
    have hv6 : vp_in (nI o) 6 := vp_in_nI (by omega) (by omega)
    have v3 : vp_in (nI (t + o)) 12 := vp_in_nI (by omega) (by omega)
    have k3 : (nI (t + o)).toNatClampNeg = t + o := nI_clamp (by omega)
    have ih1 := ih (o + 1) (by omega)
    rw [uF, uF] at ih1
    refine X_wp [10] ck_X10_pays 42 ?_
    simp (decide := true) only [wp_s e_X10_pays_0, wp_s e_X10_pays_1, wp_s e_X10_pays_2, wp_s e_X10_pays_3, wp_s e_X10_pays_4, wp_s e_X10_pays_7, wp_s e_X10_pays_8, wp_s e_X10_pays_10, wp_s e_X10_pays_12, wp_s e_X10_pays_13, wp_s e_X10_pays_16, wp_s e_X10_pays_17, wp_s e_X10_pays_18, wp_s e_X10_pays_21, wp_s e_X10_pays_22, wp_s e_X10_pays_25, wp_s e_X10_pays_26, wp_s e_X10_pays_28, wp_s e_X10_pays_29, wp_s e_X10_pays_30, wp_s e_X10_pays_31, wp_s e_X10_pays_33, wp_s e_X10_pays_34, wp_s e_X10_pays_37, wp_s e_X10_pays_38, wp_s e_X10_pays_39, wp_s e_X10_pays_42, wp_s e_X10_pays_43, wp_s e_X10_pays_45, wp_s e_X10_pays_46, wp_s e_X10_pays_47, wp_s e_X10_pays_48, wp_s e_X10_pays_49, wp_s e_X10_pays_52, wp_s e_X10_pays_54, wp_s e_X10_pays_55, wp_s e_X10_pays_56, wp_s e_X10_pays_57, wp_s e_X10_pays_60, wp_s e_X10_pays_63, st_iadd, st_isub, st_imul, st_iand, st_ior, st_ishl, st_ishr, st_idiv, st_irem, st_ladd, st_lsub, st_lmul, st_lor, st_land, st_ldiv, st_lshl, st_lcmp, st_i2l, st_i2b, st_l2i, st_i2c, st_iconst, st_bipush, st_sipush, st_lconst, st_ldc2_w, st_ldc_w, st_ldcI, st_ldcS, st_iload, st_iload_n, st_lload, st_lload_n, st_aload, st_aload_n, st_istore, st_istore_n, st_lstore, st_lstore_n, st_astore, st_astore_n, st_iinc, st_dup, st_pop, st_dup2, st_ifCond, st_if_icmp, st_goto, st_getI, st_getL, st_getR, st_putI, st_putL, st_putR, st_putZ, st_sval, st_scod, st_baload, st_baloadS, st_alen, st_alenS, st_gets1, st_getsF, st_iaload, st_laload, st_aaload, st_iastore, st_lastore, st_bastoreB, st_bastoreZ, st_aastore, st_iret, st_zret, st_cret, st_bret, st_return_, st_areturn, st_invV, st_invVS, st_invS, st_invI, st_min, st_max, st_obj, st_new, st_newarray, st_anewarray, st_multianewarray, st_table, st_lookup, pI_c, pL_c, pR_c, p1_i, p1_r, p1_n, iI_0, iI_s, iL_0, iL_s, iR_0, iR_s, rfV_s, kc_c, kl_c, cats_0, cats_i, cats_l, cats_r, rcv_c, rcvS_c, isRefA_c, cl_0, cl_1, cl_2, cl_3, cl_4, cl_5, cl_6, cl_7, set1_0, set1_1i, set1_1r, set1_1n, set1_s, set2_s, set2_1i, set2_1r, set2_1n, toL_s, toL_n, cnd, and_self, true_and, and_true, true_or, or_true, List.contains_nil, List.contains_cons, Bool.or_false, beq_iff_eq, Nat.reduceBEq, Nat.reduceEqDiff, Nat.reduceAdd, Nat.reduceLeDiff, Nat.reduceSub, Bool.false_eq_true, if_false, if_true, Nat.zero_le, Nat.add_zero, Nat.zero_add, Nat.le_refl, gN_sI, gN_sL, gN_sR, gR_sI, gR_sL, gR_sR, rtp, rx, rrd, rnm, rtk, row, rtm, rpd, rnt, rtn, rst, rwt, rgt, rlg, rlw, rlt, sh_89, sh_90, sh_91, sh_92, sh_93, sh_94, sh_95, sh_96, sh_97, sh_98, sh_99, sh_100, sh_101, sh_102, sh_103, sh_104, sh_105, h89, h90, h91, h92, h93, h94, h95, h96, h97, h98, h99, h100, h101, h102, h103, h104, h105, nI_add, vx0, vx1, vx2, vx3, vx4, vx5, cx0, cx1, cx2, cx3, cx4, cx5, hd0, hc, gR_wr2, gN_wr2, gI_wr2_95, gI_wr2_94, gI_wr2_91, gI_wr2_100, gI_wr2_101, gI_wr2_102, @lit_add 69, @lit_add 75, hcl, hv6, v3, k3, nI_1]
    refine ⟨fun c => absurd c (nI_ge (by omega) (by omega)), fun _ => C_X10_owedThen (by omega) (RefAt_wr2 hR0) ht (by omega) ?_⟩
    rw [rOwed_wr2 (uF_at o (t + o) (by omega)) (uF_at o (t + o) (by omega))]
    (simp (decide := true) only [st_iadd, st_isub, st_imul, st_iand, st_ior, st_ishl, st_ishr, st_idiv, st_irem, st_ladd, st_lsub, st_lmul, st_lor, st_land, st_ldiv, st_lshl, st_lcmp, st_i2l, st_i2b, st_l2i, st_i2c, st_iconst, st_bipush, st_sipush, st_lconst, st_ldc2_w, st_ldc_w, st_ldcI, st_ldcS, st_iload, st_iload_n, st_lload, st_lload_n, st_aload, st_aload_n, st_istore, st_istore_n, st_lstore, st_lstore_n, st_astore, st_astore_n, st_iinc, st_dup, st_pop, st_dup2, st_ifCond, st_if_icmp, st_goto, st_getI, st_getL, st_getR, st_putI, st_putL, st_putR, st_putZ, st_sval, st_scod, st_baload, st_baloadS, st_alen, st_alenS, st_gets1, st_getsF, st_iaload, st_laload, st_aaload, st_iastore, st_lastore, st_bastoreB, st_bastoreZ, st_aastore, st_iret, st_zret, st_cret, st_bret, st_return_, st_areturn, st_invV, st_invVS, st_invS, st_invI, st_min, st_max, st_obj, st_new, st_newarray, st_anewarray, st_multianewarray, st_table, st_lookup, pI_c, pL_c, pR_c, p1_i, p1_r, p1_n, iI_0, iI_s, iL_0, iL_s, iR_0, iR_s, rfV_s, kc_c, kl_c, cats_0, cats_i, cats_l, cats_r, rcv_c, rcvS_c, isRefA_c, cl_0, cl_1, cl_2, cl_3, cl_4, cl_5, cl_6, cl_7, set1_0, set1_1i, set1_1r, set1_1n, set1_s, set2_s, set2_1i, set2_1r, set2_1n, toL_s, toL_n, cnd, and_self, true_and, and_true, true_or, or_true, List.contains_nil, List.contains_cons, Bool.or_false, beq_iff_eq, Nat.reduceBEq, Nat.reduceEqDiff, Nat.reduceAdd, Nat.reduceLeDiff, Nat.reduceSub, Bool.false_eq_true, if_false, if_true, Nat.zero_le, Nat.add_zero, Nat.zero_add, Nat.le_refl, gN_sI, gN_sL, gN_sR, gR_sI, gR_sL, gR_sR, rtp, rx, rrd, rnm, rtk, row, rtm, rpd, rnt, rtn, rst, rwt, rgt, rlg, rlw, rlt, sh_89, sh_90, sh_91, sh_92, sh_93, sh_94, sh_95, sh_96, sh_97, sh_98, sh_99, sh_100, sh_101, sh_102, sh_103, sh_104, sh_105, h89, h90, h91, h92, h93, h94, h95, h96, h97, h98, h99, h100, h101, h102, h103, h104, h105, nI_add, vx0, vx1, vx2, vx3, vx4, vx5, cx0, cx1, cx2, cx3, cx4, cx5, hd0, hc, gR_wr2, gN_wr2, gI_wr2_95, gI_wr2_94, gI_wr2_91, gI_wr2_100, gI_wr2_101, gI_wr2_102, @lit_add 69, @lit_add 75, hcl, hv6, v3, k3, nI_1]; try simp (decide := true) only [cats_0, cats_i, cats_r, cats_l, bI_0, bI_1, bI_01, true_and, and_true, and_self, Nat.zero_le, Nat.reduceAdd, Nat.reduceLeDiff])
    rw [wr2_95]
    (simp (decide := true) only [st_iadd, st_isub, st_imul, st_iand, st_ior, st_ishl, st_ishr, st_idiv, st_irem, st_ladd, st_lsub, st_lmul, st_lor, st_land, st_ldiv, st_lshl, st_lcmp, st_i2l, st_i2b, st_l2i, st_i2c, st_iconst, st_bipush, st_sipush, st_lconst, st_ldc2_w, st_ldc_w, st_ldcI, st_ldcS, st_iload, st_iload_n, st_lload, st_lload_n, st_aload, st_aload_n, st_istore, st_istore_n, st_lstore, st_lstore_n, st_astore, st_astore_n, st_iinc, st_dup, st_pop, st_dup2, st_ifCond, st_if_icmp, st_goto, st_getI, st_getL, st_getR, st_putI, st_putL, st_putR, st_putZ, st_sval, st_scod, st_baload, st_baloadS, st_alen, st_alenS, st_gets1, st_getsF, st_iaload, st_laload, st_aaload, st_iastore, st_lastore, st_bastoreB, st_bastoreZ, st_aastore, st_iret, st_zret, st_cret, st_bret, st_return_, st_areturn, st_invV, st_invVS, st_invS, st_invI, st_min, st_max, st_obj, st_new, st_newarray, st_anewarray, st_multianewarray, st_table, st_lookup, pI_c, pL_c, pR_c, p1_i, p1_r, p1_n, iI_0, iI_s, iL_0, iL_s, iR_0, iR_s, rfV_s, kc_c, kl_c, cats_0, cats_i, cats_l, cats_r, rcv_c, rcvS_c, isRefA_c, cl_0, cl_1, cl_2, cl_3, cl_4, cl_5, cl_6, cl_7, set1_0, set1_1i, set1_1r, set1_1n, set1_s, set2_s, set2_1i, set2_1r, set2_1n, toL_s, toL_n, cnd, and_self, true_and, and_true, true_or, or_true, List.contains_nil, List.contains_cons, Bool.or_false, beq_iff_eq, Nat.reduceBEq, Nat.reduceEqDiff, Nat.reduceAdd, Nat.reduceLeDiff, Nat.reduceSub, Bool.false_eq_true, if_false, if_true, Nat.zero_le, Nat.add_zero, Nat.zero_add, Nat.le_refl, gN_sI, gN_sL, gN_sR, gR_sI, gR_sL, gR_sR, rtp, rx, rrd, rnm, rtk, row, rtm, rpd, rnt, rtn, rst, rwt, rgt, rlg, rlw, rlt, sh_89, sh_90, sh_91, sh_92, sh_93, sh_94, sh_95, sh_96, sh_97, sh_98, sh_99, sh_100, sh_101, sh_102, sh_103, sh_104, sh_105, h89, h90, h91, h92, h93, h94, h95, h96, h97, h98, h99, h100, h101, h102, h103, h104, h105, nI_add, vx0, vx1, vx2, vx3, vx4, vx5, cx0, cx1, cx2, cx3, cx4, cx5, hd0, hc, gR_wr2, gN_wr2, gI_wr2_95, gI_wr2_94, gI_wr2_91, gI_wr2_100, gI_wr2_101, gI_wr2_102, @lit_add 69, @lit_add 75, hcl, hv6, v3, k3, nI_1]; try simp (decide := true) only [cats_0, cats_i, cats_r, cats_l, bI_0, bI_1, bI_01, true_and, and_true, and_self, Nat.zero_le, Nat.reduceAdd, Nat.reduceLeDiff])
    rw [wr2_94, uF_at o (t + o) (by omega)]
    exact ih1
end RPAYS
