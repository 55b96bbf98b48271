section PADESK
variable {σ σ1 σ2 τ : St} {d N b b' i j k n nt np no mt mp mo p o t K nx T : Nat} {Rt : Option Value → St → Prop} {f f' g : Nat → Int32} {w v : Int64} {s : PS} {lo hi x c : Int32} {nm : Nat → Int64} {B : Int} {cc : Nat}
def SPd (b a j : Nat) : Prop := SCq b a j ∨ (a = 0 ∧ (j = 7 ∨ j = 8 ∨ j = 9)) ∨ (a = 1 ∧ j = 1)
/-- the desks change places -/
def swS (τ : St) (b b' : Nat) : St := sI (sI (sI (sR (sR (sI (sI τ 0 8 0) 1 1 0) 0 5 (some b')) 0 6 (some b)) 31 1 0) 31 2 0) 0 7 0
set_option maxRecDepth 10000 in
theorem C_X9_desk (hd : 9 ≤ d) (hCl : ClsAt σ b b') (hN : gN σ = 107) (hf : gI σ 2 = f) (hN5 : N ≤ 500) (hT : nI N ≤ gI σ 1 1)
    (h0 : ∀ σ', FrX (SPd b') LCr σ σ' → ¬ (allP f N nm g).1 = 0 → gI σ' 0 7 = 4 → gI σ' 0 8 = (allP f N nm g).1 → gI σ' 0 9 = nI (allP f N nm g).2.1.1 → gI σ' 1 1 = 0 → Rt (some (.int (-1))) σ')
    (h1 : ∀ τ, FrX (SCq b') LCr σ τ → CL τ f N b' (allP f N nm g) → (allP f N nm g).1 = 0 → Rt (some (.int (gI τ b' 5))) (swS τ b b')) : Con d q_X9_desk 0 0 [.ref 0, .int (nI N)] σ Rt := by
  have hCl0 := hCl
  obtain ⟨hbb', ⟨c00, c01, c02, c03, c04, c05, c06⟩, ⟨c10, c38, c39, c4⟩, ⟨c31, c32⟩, hFig, hTri, hD45, hD67⟩ := hCl
  have hd0 : 0 < d := by omega
  have g0 : 0 < gN σ := by omega
  have g1 : 1 < gN σ := by omega
  have g2 : 2 < gN σ := by omega
  have g3 : 3 < gN σ := by omega
  have g31 : 31 < gN σ := by omega
  have hD : DeskAt σ b' := by rcases hbb' with ⟨-, rfl⟩ | ⟨-, rfl⟩ <;> assumption
  have hb := hD.2.1
  have bb : b' < gN σ := by omega
  obtain ⟨w0, -⟩ := dsh b' hb
  have n0 : 0 ≤ nI N := nI_le (a := 0) (by omega) (by omega)
  have rr : ∀ (τ : St) (j : Nat) (x : Option Nat), gI (sR τ 0 j x) = gI τ := fun _ _ _ => rfl
  refine Con_of_X (ls := [.ref 0, .int (nI N), .null]) rfl (Nat.le_of_ble_eq_true rfl) rfl ?_
  refine X_wp [] ck_X9_desk 59 ?_
  simp (maxSteps := 2000000) (decide := true) only [wp_s e_X9_desk_0, wp_s e_X9_desk_1, wp_s e_X9_desk_2, wp_s e_X9_desk_3, wp_s e_X9_desk_6, wp_s e_X9_desk_9, wp_s e_X9_desk_12, wp_s e_X9_desk_15, wp_s e_X9_desk_16, wp_s e_X9_desk_17, wp_s e_X9_desk_20, wp_s e_X9_desk_21, wp_s e_X9_desk_22, wp_s e_X9_desk_23, wp_s e_X9_desk_26, wp_s e_X9_desk_27, wp_s e_X9_desk_30, wp_s e_X9_desk_33, wp_s e_X9_desk_34, wp_s e_X9_desk_35, wp_s e_X9_desk_38, wp_s e_X9_desk_41, wp_s e_X9_desk_44, wp_s e_X9_desk_45, wp_s e_X9_desk_48, wp_s e_X9_desk_49, wp_s e_X9_desk_52, wp_s e_X9_desk_53, wp_s e_X9_desk_56, wp_s e_X9_desk_59, wp_s e_X9_desk_60, wp_s e_X9_desk_61, wp_s e_X9_desk_64, wp_s e_X9_desk_67, wp_s e_X9_desk_70, wp_s e_X9_desk_71, wp_s e_X9_desk_72, wp_s e_X9_desk_75, wp_s e_X9_desk_76, wp_s e_X9_desk_77, wp_s e_X9_desk_80, wp_s e_X9_desk_81, wp_s e_X9_desk_82, wp_s e_X9_desk_83, wp_s e_X9_desk_86, wp_s e_X9_desk_89, wp_s e_X9_desk_90, wp_s e_X9_desk_91, wp_s e_X9_desk_94, wp_s e_X9_desk_95, wp_s e_X9_desk_98, wp_s e_X9_desk_101, wp_s e_X9_desk_102, wp_s e_X9_desk_103, wp_s e_X9_desk_106, wp_s e_X9_desk_109, wp_s e_X9_desk_112, ↓reduceIte, st_iadd, st_isub, st_imul, st_iand, st_ior, st_ishl, st_ishr, st_idiv, st_irem, st_ladd, st_lsub, st_lmul, st_lor, st_land, st_ldiv, st_lshl, st_lcmp, st_i2l, st_i2b, st_l2i, st_i2c, st_iconst, st_bipush, st_sipush, st_lconst, st_ldc2_w, st_ldc_w, st_ldcI, st_ldcS, st_iload, st_iload_n, st_lload, st_lload_n, st_aload, st_aload_n, st_istore, st_istore_n, st_lstore, st_lstore_n, st_astore, st_astore_n, st_iinc, st_dup, st_pop, st_dup2, st_ifCond, st_if_icmp, st_goto, st_getI, st_getL, st_getR, st_putI, st_putL, st_putR, st_putZ, st_sval, st_scod, st_baload, st_baloadS, st_alen, st_alenS, st_gets1, st_getsF, st_iaload, st_laload, st_aaload, st_iastore, st_lastore, st_bastoreB, st_bastoreZ, st_aastore, st_iret, st_zret, st_cret, st_bret, st_return_, st_areturn, st_invV, st_invVS, st_invS, st_invI, st_minI, st_maxI, st_obj, st_new, st_newarray, st_anewarray, st_multianewarray, st_table, st_lookup, pI_c, pL_c, pR_c, p1_i, p1_r, p1_n, iI_0, iI_s, iL_0, iL_s, iR_0, iR_s, rfV_s, kc_c, kl_c, cats_0, cats_i, cats_l, cats_r, rcv_c, rcvS_c, isRefA_c, cl_0, cl_1, cl_2, cl_3, cl_4, cl_5, cl_6, cl_7, set1_0, set1_1i, set1_1r, set1_1n, set1_s, set2_s, set2_1i, set2_1r, set2_1n, toL_s, toL_n, cnd, and_self, true_and, and_true, true_or, or_true, List.contains_nil, List.contains_cons, Bool.or_false, beq_iff_eq, Nat.reduceBEq, Nat.reduceEqDiff, Nat.reduceAdd, Nat.reduceLeDiff, Nat.reduceSub, Bool.false_eq_true, if_false, if_true, Nat.zero_le, Nat.add_zero, Nat.zero_add, Nat.le_refl, gN_sI, gN_sL, gN_sR, gR_sI, gR_sL, gR_sR, sh_0, sh_1, sh_2, sh_3, sh_31, g0, g1, g2, g3, g31, hd0, bb, w0, c00, c01, c04, c05, c06, c10, nI_1, true_implies, false_implies, bI_t, bI_f, false_and, and_false, if_false, if_true, not_true_eq_false, not_false_eq_true]
  refine C_X9_within ?_
  rw [decide_eq_true (show (0 : Int32) ≤ nI N ∧ nI N ≤ gI σ 1 1 from ⟨n0, hT⟩)]
  simp (maxSteps := 2000000) (decide := true) only [wp_s e_X9_desk_0, wp_s e_X9_desk_1, wp_s e_X9_desk_2, wp_s e_X9_desk_3, wp_s e_X9_desk_6, wp_s e_X9_desk_9, wp_s e_X9_desk_12, wp_s e_X9_desk_15, wp_s e_X9_desk_16, wp_s e_X9_desk_17, wp_s e_X9_desk_20, wp_s e_X9_desk_21, wp_s e_X9_desk_22, wp_s e_X9_desk_23, wp_s e_X9_desk_26, wp_s e_X9_desk_27, wp_s e_X9_desk_30, wp_s e_X9_desk_33, wp_s e_X9_desk_34, wp_s e_X9_desk_35, wp_s e_X9_desk_38, wp_s e_X9_desk_41, wp_s e_X9_desk_44, wp_s e_X9_desk_45, wp_s e_X9_desk_48, wp_s e_X9_desk_49, wp_s e_X9_desk_52, wp_s e_X9_desk_53, wp_s e_X9_desk_56, wp_s e_X9_desk_59, wp_s e_X9_desk_60, wp_s e_X9_desk_61, wp_s e_X9_desk_64, wp_s e_X9_desk_67, wp_s e_X9_desk_70, wp_s e_X9_desk_71, wp_s e_X9_desk_72, wp_s e_X9_desk_75, wp_s e_X9_desk_76, wp_s e_X9_desk_77, wp_s e_X9_desk_80, wp_s e_X9_desk_81, wp_s e_X9_desk_82, wp_s e_X9_desk_83, wp_s e_X9_desk_86, wp_s e_X9_desk_89, wp_s e_X9_desk_90, wp_s e_X9_desk_91, wp_s e_X9_desk_94, wp_s e_X9_desk_95, wp_s e_X9_desk_98, wp_s e_X9_desk_101, wp_s e_X9_desk_102, wp_s e_X9_desk_103, wp_s e_X9_desk_106, wp_s e_X9_desk_109, wp_s e_X9_desk_112, ↓reduceIte, st_iadd, st_isub, st_imul, st_iand, st_ior, st_ishl, st_ishr, st_idiv, st_irem, st_ladd, st_lsub, st_lmul, st_lor, st_land, st_ldiv, st_lshl, st_lcmp, st_i2l, st_i2b, st_l2i, st_i2c, st_iconst, st_bipush, st_sipush, st_lconst, st_ldc2_w, st_ldc_w, st_ldcI, st_ldcS, st_iload, st_iload_n, st_lload, st_lload_n, st_aload, st_aload_n, st_istore, st_istore_n, st_lstore, st_lstore_n, st_astore, st_astore_n, st_iinc, st_dup, st_pop, st_dup2, st_ifCond, st_if_icmp, st_goto, st_getI, st_getL, st_getR, st_putI, st_putL, st_putR, st_putZ, st_sval, st_scod, st_baload, st_baloadS, st_alen, st_alenS, st_gets1, st_getsF, st_iaload, st_laload, st_aaload, st_iastore, st_lastore, st_bastoreB, st_bastoreZ, st_aastore, st_iret, st_zret, st_cret, st_bret, st_return_, st_areturn, st_invV, st_invVS, st_invS, st_invI, st_minI, st_maxI, st_obj, st_new, st_newarray, st_anewarray, st_multianewarray, st_table, st_lookup, pI_c, pL_c, pR_c, p1_i, p1_r, p1_n, iI_0, iI_s, iL_0, iL_s, iR_0, iR_s, rfV_s, kc_c, kl_c, cats_0, cats_i, cats_l, cats_r, rcv_c, rcvS_c, isRefA_c, cl_0, cl_1, cl_2, cl_3, cl_4, cl_5, cl_6, cl_7, set1_0, set1_1i, set1_1r, set1_1n, set1_s, set2_s, set2_1i, set2_1r, set2_1n, toL_s, toL_n, cnd, and_self, true_and, and_true, true_or, or_true, List.contains_nil, List.contains_cons, Bool.or_false, beq_iff_eq, Nat.reduceBEq, Nat.reduceEqDiff, Nat.reduceAdd, Nat.reduceLeDiff, Nat.reduceSub, Bool.false_eq_true, if_false, if_true, Nat.zero_le, Nat.add_zero, Nat.zero_add, Nat.le_refl, gN_sI, gN_sL, gN_sR, gR_sI, gR_sL, gR_sR, sh_0, sh_1, sh_2, sh_3, sh_31, g0, g1, g2, g3, g31, hd0, bb, w0, c00, c01, c04, c05, c06, c10, nI_1, true_implies, false_implies, bI_t, bI_f, false_and, and_false, if_false, if_true, not_true_eq_false, not_false_eq_true]
  refine C_cRead (nm := nm) (g := g) (by omega) hN hD ⟨c38, c39, c4⟩ hf hN5 (fun τ fτ cτ => ?_) (fun τ fτ cτ => ?_)
  · have Q1 : gR τ = gR σ := fτ.1
    have M1 : gN τ = gN σ := fτ.2.1
    have hs := cτ.1.2.1
    have e8 : ∀ (τ : St), gI (sI (sI τ 0 8 0) 1 1 0) 0 8 = 0 := fun τ => (gI_ne (by omega)).trans gI_same
    have e5 : gI (sI (sI (sI (sI τ 0 8 0) 1 1 0) 31 1 0) 31 2 0) b' 5 = gI τ b' 5 := by rw [gI_ne (by omega), gI_ne (by omega), gI_ne (by omega), gI_ne (by omega)]
    simp (maxSteps := 2000000) (decide := true) only [wp_s e_X9_desk_0, wp_s e_X9_desk_1, wp_s e_X9_desk_2, wp_s e_X9_desk_3, wp_s e_X9_desk_6, wp_s e_X9_desk_9, wp_s e_X9_desk_12, wp_s e_X9_desk_15, wp_s e_X9_desk_16, wp_s e_X9_desk_17, wp_s e_X9_desk_20, wp_s e_X9_desk_21, wp_s e_X9_desk_22, wp_s e_X9_desk_23, wp_s e_X9_desk_26, wp_s e_X9_desk_27, wp_s e_X9_desk_30, wp_s e_X9_desk_33, wp_s e_X9_desk_34, wp_s e_X9_desk_35, wp_s e_X9_desk_38, wp_s e_X9_desk_41, wp_s e_X9_desk_44, wp_s e_X9_desk_45, wp_s e_X9_desk_48, wp_s e_X9_desk_49, wp_s e_X9_desk_52, wp_s e_X9_desk_53, wp_s e_X9_desk_56, wp_s e_X9_desk_59, wp_s e_X9_desk_60, wp_s e_X9_desk_61, wp_s e_X9_desk_64, wp_s e_X9_desk_67, wp_s e_X9_desk_70, wp_s e_X9_desk_71, wp_s e_X9_desk_72, wp_s e_X9_desk_75, wp_s e_X9_desk_76, wp_s e_X9_desk_77, wp_s e_X9_desk_80, wp_s e_X9_desk_81, wp_s e_X9_desk_82, wp_s e_X9_desk_83, wp_s e_X9_desk_86, wp_s e_X9_desk_89, wp_s e_X9_desk_90, wp_s e_X9_desk_91, wp_s e_X9_desk_94, wp_s e_X9_desk_95, wp_s e_X9_desk_98, wp_s e_X9_desk_101, wp_s e_X9_desk_102, wp_s e_X9_desk_103, wp_s e_X9_desk_106, wp_s e_X9_desk_109, wp_s e_X9_desk_112, ↓reduceIte, st_iadd, st_isub, st_imul, st_iand, st_ior, st_ishl, st_ishr, st_idiv, st_irem, st_ladd, st_lsub, st_lmul, st_lor, st_land, st_ldiv, st_lshl, st_lcmp, st_i2l, st_i2b, st_l2i, st_i2c, st_iconst, st_bipush, st_sipush, st_lconst, st_ldc2_w, st_ldc_w, st_ldcI, st_ldcS, st_iload, st_iload_n, st_lload, st_lload_n, st_aload, st_aload_n, st_istore, st_istore_n, st_lstore, st_lstore_n, st_astore, st_astore_n, st_iinc, st_dup, st_pop, st_dup2, st_ifCond, st_if_icmp, st_goto, st_getI, st_getL, st_getR, st_putI, st_putL, st_putR, st_putZ, st_sval, st_scod, st_baload, st_baloadS, st_alen, st_alenS, st_gets1, st_getsF, st_iaload, st_laload, st_aaload, st_iastore, st_lastore, st_bastoreB, st_bastoreZ, st_aastore, st_iret, st_zret, st_cret, st_bret, st_return_, st_areturn, st_invV, st_invVS, st_invS, st_invI, st_minI, st_maxI, st_obj, st_new, st_newarray, st_anewarray, st_multianewarray, st_table, st_lookup, pI_c, pL_c, pR_c, p1_i, p1_r, p1_n, iI_0, iI_s, iL_0, iL_s, iR_0, iR_s, rfV_s, kc_c, kl_c, cats_0, cats_i, cats_l, cats_r, rcv_c, rcvS_c, isRefA_c, cl_0, cl_1, cl_2, cl_3, cl_4, cl_5, cl_6, cl_7, set1_0, set1_1i, set1_1r, set1_1n, set1_s, set2_s, set2_1i, set2_1r, set2_1n, toL_s, toL_n, cnd, and_self, true_and, and_true, true_or, or_true, List.contains_nil, List.contains_cons, Bool.or_false, beq_iff_eq, Nat.reduceBEq, Nat.reduceEqDiff, Nat.reduceAdd, Nat.reduceLeDiff, Nat.reduceSub, Bool.false_eq_true, if_false, if_true, Nat.zero_le, Nat.add_zero, Nat.zero_add, Nat.le_refl, gN_sI, gN_sL, gN_sR, gR_sI, gR_sL, gR_sR, sh_0, sh_1, sh_2, sh_3, sh_31, g0, g1, g2, g3, g31, hd0, bb, w0, c00, c01, c04, c05, c06, c10, nI_1, true_implies, false_implies, bI_t, bI_f, false_and, and_false, if_false, if_true, not_true_eq_false, not_false_eq_true, Q1, M1, e8, rr]
    refine C_X2_clear (M1.trans hN) ?_
    simp (maxSteps := 2000000) (decide := true) only [wp_s e_X9_desk_0, wp_s e_X9_desk_1, wp_s e_X9_desk_2, wp_s e_X9_desk_3, wp_s e_X9_desk_6, wp_s e_X9_desk_9, wp_s e_X9_desk_12, wp_s e_X9_desk_15, wp_s e_X9_desk_16, wp_s e_X9_desk_17, wp_s e_X9_desk_20, wp_s e_X9_desk_21, wp_s e_X9_desk_22, wp_s e_X9_desk_23, wp_s e_X9_desk_26, wp_s e_X9_desk_27, wp_s e_X9_desk_30, wp_s e_X9_desk_33, wp_s e_X9_desk_34, wp_s e_X9_desk_35, wp_s e_X9_desk_38, wp_s e_X9_desk_41, wp_s e_X9_desk_44, wp_s e_X9_desk_45, wp_s e_X9_desk_48, wp_s e_X9_desk_49, wp_s e_X9_desk_52, wp_s e_X9_desk_53, wp_s e_X9_desk_56, wp_s e_X9_desk_59, wp_s e_X9_desk_60, wp_s e_X9_desk_61, wp_s e_X9_desk_64, wp_s e_X9_desk_67, wp_s e_X9_desk_70, wp_s e_X9_desk_71, wp_s e_X9_desk_72, wp_s e_X9_desk_75, wp_s e_X9_desk_76, wp_s e_X9_desk_77, wp_s e_X9_desk_80, wp_s e_X9_desk_81, wp_s e_X9_desk_82, wp_s e_X9_desk_83, wp_s e_X9_desk_86, wp_s e_X9_desk_89, wp_s e_X9_desk_90, wp_s e_X9_desk_91, wp_s e_X9_desk_94, wp_s e_X9_desk_95, wp_s e_X9_desk_98, wp_s e_X9_desk_101, wp_s e_X9_desk_102, wp_s e_X9_desk_103, wp_s e_X9_desk_106, wp_s e_X9_desk_109, wp_s e_X9_desk_112, ↓reduceIte, st_iadd, st_isub, st_imul, st_iand, st_ior, st_ishl, st_ishr, st_idiv, st_irem, st_ladd, st_lsub, st_lmul, st_lor, st_land, st_ldiv, st_lshl, st_lcmp, st_i2l, st_i2b, st_l2i, st_i2c, st_iconst, st_bipush, st_sipush, st_lconst, st_ldc2_w, st_ldc_w, st_ldcI, st_ldcS, st_iload, st_iload_n, st_lload, st_lload_n, st_aload, st_aload_n, st_istore, st_istore_n, st_lstore, st_lstore_n, st_astore, st_astore_n, st_iinc, st_dup, st_pop, st_dup2, st_ifCond, st_if_icmp, st_goto, st_getI, st_getL, st_getR, st_putI, st_putL, st_putR, st_putZ, st_sval, st_scod, st_baload, st_baloadS, st_alen, st_alenS, st_gets1, st_getsF, st_iaload, st_laload, st_aaload, st_iastore, st_lastore, st_bastoreB, st_bastoreZ, st_aastore, st_iret, st_zret, st_cret, st_bret, st_return_, st_areturn, st_invV, st_invVS, st_invS, st_invI, st_minI, st_maxI, st_obj, st_new, st_newarray, st_anewarray, st_multianewarray, st_table, st_lookup, pI_c, pL_c, pR_c, p1_i, p1_r, p1_n, iI_0, iI_s, iL_0, iL_s, iR_0, iR_s, rfV_s, kc_c, kl_c, cats_0, cats_i, cats_l, cats_r, rcv_c, rcvS_c, isRefA_c, cl_0, cl_1, cl_2, cl_3, cl_4, cl_5, cl_6, cl_7, set1_0, set1_1i, set1_1r, set1_1n, set1_s, set2_s, set2_1i, set2_1r, set2_1n, toL_s, toL_n, cnd, and_self, true_and, and_true, true_or, or_true, List.contains_nil, List.contains_cons, Bool.or_false, beq_iff_eq, Nat.reduceBEq, Nat.reduceEqDiff, Nat.reduceAdd, Nat.reduceLeDiff, Nat.reduceSub, Bool.false_eq_true, if_false, if_true, Nat.zero_le, Nat.add_zero, Nat.zero_add, Nat.le_refl, gN_sI, gN_sL, gN_sR, gR_sI, gR_sL, gR_sR, sh_0, sh_1, sh_2, sh_3, sh_31, g0, g1, g2, g3, g31, hd0, bb, w0, c00, c01, c04, c05, c06, c10, nI_1, true_implies, false_implies, bI_t, bI_f, false_and, and_false, if_false, if_true, not_true_eq_false, not_false_eq_true, Q1, M1, e8, rr, e5]
    refine C_X9_granted (M1.trans hN) ?_
    simp (maxSteps := 2000000) (decide := true) only [wp_s e_X9_desk_0, wp_s e_X9_desk_1, wp_s e_X9_desk_2, wp_s e_X9_desk_3, wp_s e_X9_desk_6, wp_s e_X9_desk_9, wp_s e_X9_desk_12, wp_s e_X9_desk_15, wp_s e_X9_desk_16, wp_s e_X9_desk_17, wp_s e_X9_desk_20, wp_s e_X9_desk_21, wp_s e_X9_desk_22, wp_s e_X9_desk_23, wp_s e_X9_desk_26, wp_s e_X9_desk_27, wp_s e_X9_desk_30, wp_s e_X9_desk_33, wp_s e_X9_desk_34, wp_s e_X9_desk_35, wp_s e_X9_desk_38, wp_s e_X9_desk_41, wp_s e_X9_desk_44, wp_s e_X9_desk_45, wp_s e_X9_desk_48, wp_s e_X9_desk_49, wp_s e_X9_desk_52, wp_s e_X9_desk_53, wp_s e_X9_desk_56, wp_s e_X9_desk_59, wp_s e_X9_desk_60, wp_s e_X9_desk_61, wp_s e_X9_desk_64, wp_s e_X9_desk_67, wp_s e_X9_desk_70, wp_s e_X9_desk_71, wp_s e_X9_desk_72, wp_s e_X9_desk_75, wp_s e_X9_desk_76, wp_s e_X9_desk_77, wp_s e_X9_desk_80, wp_s e_X9_desk_81, wp_s e_X9_desk_82, wp_s e_X9_desk_83, wp_s e_X9_desk_86, wp_s e_X9_desk_89, wp_s e_X9_desk_90, wp_s e_X9_desk_91, wp_s e_X9_desk_94, wp_s e_X9_desk_95, wp_s e_X9_desk_98, wp_s e_X9_desk_101, wp_s e_X9_desk_102, wp_s e_X9_desk_103, wp_s e_X9_desk_106, wp_s e_X9_desk_109, wp_s e_X9_desk_112, ↓reduceIte, st_iadd, st_isub, st_imul, st_iand, st_ior, st_ishl, st_ishr, st_idiv, st_irem, st_ladd, st_lsub, st_lmul, st_lor, st_land, st_ldiv, st_lshl, st_lcmp, st_i2l, st_i2b, st_l2i, st_i2c, st_iconst, st_bipush, st_sipush, st_lconst, st_ldc2_w, st_ldc_w, st_ldcI, st_ldcS, st_iload, st_iload_n, st_lload, st_lload_n, st_aload, st_aload_n, st_istore, st_istore_n, st_lstore, st_lstore_n, st_astore, st_astore_n, st_iinc, st_dup, st_pop, st_dup2, st_ifCond, st_if_icmp, st_goto, st_getI, st_getL, st_getR, st_putI, st_putL, st_putR, st_putZ, st_sval, st_scod, st_baload, st_baloadS, st_alen, st_alenS, st_gets1, st_getsF, st_iaload, st_laload, st_aaload, st_iastore, st_lastore, st_bastoreB, st_bastoreZ, st_aastore, st_iret, st_zret, st_cret, st_bret, st_return_, st_areturn, st_invV, st_invVS, st_invS, st_invI, st_minI, st_maxI, st_obj, st_new, st_newarray, st_anewarray, st_multianewarray, st_table, st_lookup, pI_c, pL_c, pR_c, p1_i, p1_r, p1_n, iI_0, iI_s, iL_0, iL_s, iR_0, iR_s, rfV_s, kc_c, kl_c, cats_0, cats_i, cats_l, cats_r, rcv_c, rcvS_c, isRefA_c, cl_0, cl_1, cl_2, cl_3, cl_4, cl_5, cl_6, cl_7, set1_0, set1_1i, set1_1r, set1_1n, set1_s, set2_s, set2_1i, set2_1r, set2_1n, toL_s, toL_n, cnd, and_self, true_and, and_true, true_or, or_true, List.contains_nil, List.contains_cons, Bool.or_false, beq_iff_eq, Nat.reduceBEq, Nat.reduceEqDiff, Nat.reduceAdd, Nat.reduceLeDiff, Nat.reduceSub, Bool.false_eq_true, if_false, if_true, Nat.zero_le, Nat.add_zero, Nat.zero_add, Nat.le_refl, gN_sI, gN_sL, gN_sR, gR_sI, gR_sL, gR_sR, sh_0, sh_1, sh_2, sh_3, sh_31, g0, g1, g2, g3, g31, hd0, bb, w0, c00, c01, c04, c05, c06, c10, nI_1, true_implies, false_implies, bI_t, bI_f, false_and, and_false, if_false, if_true, not_true_eq_false, not_false_eq_true, Q1, M1]
    have key := h1 τ fτ cτ hs
    rw [← e5] at key
    exact key
  · have Q1 : gR τ = gR σ := fτ.1
    have M1 : gN τ = gN σ := fτ.2.1
    have hs := cτ.1
    have e8 : ∀ (τ : St) (x : Int32), gI (sI (sI τ 0 8 x) 1 1 0) 0 8 = x := fun τ x => (gI_ne (by omega)).trans gI_same
    have e0 : ∀ (τ : St) (x : Int32), gI (sI (sI τ 0 8 x) 1 1 0) 3 0 = gI τ 3 0 := fun τ x => by rw [gI_ne (by omega), gI_ne (by omega)]
    have c0 := cτ.2.2
    simp (maxSteps := 2000000) (decide := true) only [wp_s e_X9_desk_0, wp_s e_X9_desk_1, wp_s e_X9_desk_2, wp_s e_X9_desk_3, wp_s e_X9_desk_6, wp_s e_X9_desk_9, wp_s e_X9_desk_12, wp_s e_X9_desk_15, wp_s e_X9_desk_16, wp_s e_X9_desk_17, wp_s e_X9_desk_20, wp_s e_X9_desk_21, wp_s e_X9_desk_22, wp_s e_X9_desk_23, wp_s e_X9_desk_26, wp_s e_X9_desk_27, wp_s e_X9_desk_30, wp_s e_X9_desk_33, wp_s e_X9_desk_34, wp_s e_X9_desk_35, wp_s e_X9_desk_38, wp_s e_X9_desk_41, wp_s e_X9_desk_44, wp_s e_X9_desk_45, wp_s e_X9_desk_48, wp_s e_X9_desk_49, wp_s e_X9_desk_52, wp_s e_X9_desk_53, wp_s e_X9_desk_56, wp_s e_X9_desk_59, wp_s e_X9_desk_60, wp_s e_X9_desk_61, wp_s e_X9_desk_64, wp_s e_X9_desk_67, wp_s e_X9_desk_70, wp_s e_X9_desk_71, wp_s e_X9_desk_72, wp_s e_X9_desk_75, wp_s e_X9_desk_76, wp_s e_X9_desk_77, wp_s e_X9_desk_80, wp_s e_X9_desk_81, wp_s e_X9_desk_82, wp_s e_X9_desk_83, wp_s e_X9_desk_86, wp_s e_X9_desk_89, wp_s e_X9_desk_90, wp_s e_X9_desk_91, wp_s e_X9_desk_94, wp_s e_X9_desk_95, wp_s e_X9_desk_98, wp_s e_X9_desk_101, wp_s e_X9_desk_102, wp_s e_X9_desk_103, wp_s e_X9_desk_106, wp_s e_X9_desk_109, wp_s e_X9_desk_112, ↓reduceIte, st_iadd, st_isub, st_imul, st_iand, st_ior, st_ishl, st_ishr, st_idiv, st_irem, st_ladd, st_lsub, st_lmul, st_lor, st_land, st_ldiv, st_lshl, st_lcmp, st_i2l, st_i2b, st_l2i, st_i2c, st_iconst, st_bipush, st_sipush, st_lconst, st_ldc2_w, st_ldc_w, st_ldcI, st_ldcS, st_iload, st_iload_n, st_lload, st_lload_n, st_aload, st_aload_n, st_istore, st_istore_n, st_lstore, st_lstore_n, st_astore, st_astore_n, st_iinc, st_dup, st_pop, st_dup2, st_ifCond, st_if_icmp, st_goto, st_getI, st_getL, st_getR, st_putI, st_putL, st_putR, st_putZ, st_sval, st_scod, st_baload, st_baloadS, st_alen, st_alenS, st_gets1, st_getsF, st_iaload, st_laload, st_aaload, st_iastore, st_lastore, st_bastoreB, st_bastoreZ, st_aastore, st_iret, st_zret, st_cret, st_bret, st_return_, st_areturn, st_invV, st_invVS, st_invS, st_invI, st_minI, st_maxI, st_obj, st_new, st_newarray, st_anewarray, st_multianewarray, st_table, st_lookup, pI_c, pL_c, pR_c, p1_i, p1_r, p1_n, iI_0, iI_s, iL_0, iL_s, iR_0, iR_s, rfV_s, kc_c, kl_c, cats_0, cats_i, cats_l, cats_r, rcv_c, rcvS_c, isRefA_c, cl_0, cl_1, cl_2, cl_3, cl_4, cl_5, cl_6, cl_7, set1_0, set1_1i, set1_1r, set1_1n, set1_s, set2_s, set2_1i, set2_1r, set2_1n, toL_s, toL_n, cnd, and_self, true_and, and_true, true_or, or_true, List.contains_nil, List.contains_cons, Bool.or_false, beq_iff_eq, Nat.reduceBEq, Nat.reduceEqDiff, Nat.reduceAdd, Nat.reduceLeDiff, Nat.reduceSub, Bool.false_eq_true, if_false, if_true, Nat.zero_le, Nat.add_zero, Nat.zero_add, Nat.le_refl, gN_sI, gN_sL, gN_sR, gR_sI, gR_sL, gR_sR, sh_0, sh_1, sh_2, sh_3, sh_31, g0, g1, g2, g3, g31, hd0, bb, w0, c00, c01, c04, c05, c06, c10, nI_1, true_implies, false_implies, bI_t, bI_f, false_and, and_false, if_false, if_true, not_true_eq_false, not_false_eq_true, Q1, M1, e8, e0, hs, c0]
    refine C_X9_refuse (M1.trans hN) ?_
    simp (maxSteps := 2000000) (decide := true) only [wp_s e_X9_desk_0, wp_s e_X9_desk_1, wp_s e_X9_desk_2, wp_s e_X9_desk_3, wp_s e_X9_desk_6, wp_s e_X9_desk_9, wp_s e_X9_desk_12, wp_s e_X9_desk_15, wp_s e_X9_desk_16, wp_s e_X9_desk_17, wp_s e_X9_desk_20, wp_s e_X9_desk_21, wp_s e_X9_desk_22, wp_s e_X9_desk_23, wp_s e_X9_desk_26, wp_s e_X9_desk_27, wp_s e_X9_desk_30, wp_s e_X9_desk_33, wp_s e_X9_desk_34, wp_s e_X9_desk_35, wp_s e_X9_desk_38, wp_s e_X9_desk_41, wp_s e_X9_desk_44, wp_s e_X9_desk_45, wp_s e_X9_desk_48, wp_s e_X9_desk_49, wp_s e_X9_desk_52, wp_s e_X9_desk_53, wp_s e_X9_desk_56, wp_s e_X9_desk_59, wp_s e_X9_desk_60, wp_s e_X9_desk_61, wp_s e_X9_desk_64, wp_s e_X9_desk_67, wp_s e_X9_desk_70, wp_s e_X9_desk_71, wp_s e_X9_desk_72, wp_s e_X9_desk_75, wp_s e_X9_desk_76, wp_s e_X9_desk_77, wp_s e_X9_desk_80, wp_s e_X9_desk_81, wp_s e_X9_desk_82, wp_s e_X9_desk_83, wp_s e_X9_desk_86, wp_s e_X9_desk_89, wp_s e_X9_desk_90, wp_s e_X9_desk_91, wp_s e_X9_desk_94, wp_s e_X9_desk_95, wp_s e_X9_desk_98, wp_s e_X9_desk_101, wp_s e_X9_desk_102, wp_s e_X9_desk_103, wp_s e_X9_desk_106, wp_s e_X9_desk_109, wp_s e_X9_desk_112, ↓reduceIte, st_iadd, st_isub, st_imul, st_iand, st_ior, st_ishl, st_ishr, st_idiv, st_irem, st_ladd, st_lsub, st_lmul, st_lor, st_land, st_ldiv, st_lshl, st_lcmp, st_i2l, st_i2b, st_l2i, st_i2c, st_iconst, st_bipush, st_sipush, st_lconst, st_ldc2_w, st_ldc_w, st_ldcI, st_ldcS, st_iload, st_iload_n, st_lload, st_lload_n, st_aload, st_aload_n, st_istore, st_istore_n, st_lstore, st_lstore_n, st_astore, st_astore_n, st_iinc, st_dup, st_pop, st_dup2, st_ifCond, st_if_icmp, st_goto, st_getI, st_getL, st_getR, st_putI, st_putL, st_putR, st_putZ, st_sval, st_scod, st_baload, st_baloadS, st_alen, st_alenS, st_gets1, st_getsF, st_iaload, st_laload, st_aaload, st_iastore, st_lastore, st_bastoreB, st_bastoreZ, st_aastore, st_iret, st_zret, st_cret, st_bret, st_return_, st_areturn, st_invV, st_invVS, st_invS, st_invI, st_minI, st_maxI, st_obj, st_new, st_newarray, st_anewarray, st_multianewarray, st_table, st_lookup, pI_c, pL_c, pR_c, p1_i, p1_r, p1_n, iI_0, iI_s, iL_0, iL_s, iR_0, iR_s, rfV_s, kc_c, kl_c, cats_0, cats_i, cats_l, cats_r, rcv_c, rcvS_c, isRefA_c, cl_0, cl_1, cl_2, cl_3, cl_4, cl_5, cl_6, cl_7, set1_0, set1_1i, set1_1r, set1_1n, set1_s, set2_s, set2_1i, set2_1r, set2_1n, toL_s, toL_n, cnd, and_self, true_and, and_true, true_or, or_true, List.contains_nil, List.contains_cons, Bool.or_false, beq_iff_eq, Nat.reduceBEq, Nat.reduceEqDiff, Nat.reduceAdd, Nat.reduceLeDiff, Nat.reduceSub, Bool.false_eq_true, if_false, if_true, Nat.zero_le, Nat.add_zero, Nat.zero_add, Nat.le_refl, gN_sI, gN_sL, gN_sR, gR_sI, gR_sL, gR_sR, sh_0, sh_1, sh_2, sh_3, sh_31, g0, g1, g2, g3, g31, hd0, bb, w0, c00, c01, c04, c05, c06, c10, nI_1, true_implies, false_implies, bI_t, bI_f, false_and, and_false, if_false, if_true, not_true_eq_false, not_false_eq_true, Q1, M1]
    refine h0 _ ?_ hs gI_same ?_ ?_ ?_
    · refine FrX.sI (FrX.sI (FrX.sI (FrX.sI (fτ.mono (fun _ _ z => Or.inl z) (fun _ _ z => z)) ?_) ?_) ?_) ?_
      · exact Or.inr (Or.inl ⟨rfl, by omega⟩)
      · exact Or.inr (Or.inr ⟨rfl, rfl⟩)
      · exact Or.inr (Or.inl ⟨rfl, by omega⟩)
      · exact Or.inr (Or.inl ⟨rfl, by omega⟩)
    · rw [gI_ne (by omega), gI_ne (by omega), gI_ne (by omega), gI_same]
    · rw [gI_ne (by omega), gI_same]
    · rw [gI_ne (by omega), gI_ne (by omega), gI_same]
set_option maxRecDepth 10000 in
theorem C_X9_desk_n (hd : 9 ≤ d) (hCl : ClsAt σ b b') (hN : gN σ = 107) (hx : ¬ (0 ≤ x ∧ x ≤ gI σ 1 1)) (h : Rt (some (.int (-1))) (sI σ 0 7 2)) : Con d q_X9_desk 0 0 [.ref 0, .int x] σ Rt := by
  obtain ⟨hbb', ⟨c00, c01, c02, c03, c04, c05, c06⟩, ⟨c10, c38, c39, c4⟩, ⟨c31, c32⟩, hFig, hTri, hD45, hD67⟩ := hCl
  have hd0 : 0 < d := by omega
  have g0 : 0 < gN σ := by omega
  have g1 : 1 < gN σ := by omega
  refine Con_of_X (ls := [.ref 0, .int x, .null]) rfl (Nat.le_of_ble_eq_true rfl) rfl ?_
  refine X_wp [] ck_X9_desk 59 ?_
  simp (maxSteps := 2000000) (decide := true) only [wp_s e_X9_desk_0, wp_s e_X9_desk_1, wp_s e_X9_desk_2, wp_s e_X9_desk_3, wp_s e_X9_desk_6, wp_s e_X9_desk_9, wp_s e_X9_desk_12, wp_s e_X9_desk_15, wp_s e_X9_desk_16, wp_s e_X9_desk_17, wp_s e_X9_desk_20, wp_s e_X9_desk_21, wp_s e_X9_desk_22, wp_s e_X9_desk_23, wp_s e_X9_desk_26, wp_s e_X9_desk_27, wp_s e_X9_desk_30, wp_s e_X9_desk_33, wp_s e_X9_desk_34, wp_s e_X9_desk_35, wp_s e_X9_desk_38, wp_s e_X9_desk_41, wp_s e_X9_desk_44, wp_s e_X9_desk_45, wp_s e_X9_desk_48, wp_s e_X9_desk_49, wp_s e_X9_desk_52, wp_s e_X9_desk_53, wp_s e_X9_desk_56, wp_s e_X9_desk_59, wp_s e_X9_desk_60, wp_s e_X9_desk_61, wp_s e_X9_desk_64, wp_s e_X9_desk_67, wp_s e_X9_desk_70, wp_s e_X9_desk_71, wp_s e_X9_desk_72, wp_s e_X9_desk_75, wp_s e_X9_desk_76, wp_s e_X9_desk_77, wp_s e_X9_desk_80, wp_s e_X9_desk_81, wp_s e_X9_desk_82, wp_s e_X9_desk_83, wp_s e_X9_desk_86, wp_s e_X9_desk_89, wp_s e_X9_desk_90, wp_s e_X9_desk_91, wp_s e_X9_desk_94, wp_s e_X9_desk_95, wp_s e_X9_desk_98, wp_s e_X9_desk_101, wp_s e_X9_desk_102, wp_s e_X9_desk_103, wp_s e_X9_desk_106, wp_s e_X9_desk_109, wp_s e_X9_desk_112, ↓reduceIte, st_iadd, st_isub, st_imul, st_iand, st_ior, st_ishl, st_ishr, st_idiv, st_irem, st_ladd, st_lsub, st_lmul, st_lor, st_land, st_ldiv, st_lshl, st_lcmp, st_i2l, st_i2b, st_l2i, st_i2c, st_iconst, st_bipush, st_sipush, st_lconst, st_ldc2_w, st_ldc_w, st_ldcI, st_ldcS, st_iload, st_iload_n, st_lload, st_lload_n, st_aload, st_aload_n, st_istore, st_istore_n, st_lstore, st_lstore_n, st_astore, st_astore_n, st_iinc, st_dup, st_pop, st_dup2, st_ifCond, st_if_icmp, st_goto, st_getI, st_getL, st_getR, st_putI, st_putL, st_putR, st_putZ, st_sval, st_scod, st_baload, st_baloadS, st_alen, st_alenS, st_gets1, st_getsF, st_iaload, st_laload, st_aaload, st_iastore, st_lastore, st_bastoreB, st_bastoreZ, st_aastore, st_iret, st_zret, st_cret, st_bret, st_return_, st_areturn, st_invV, st_invVS, st_invS, st_invI, st_minI, st_maxI, st_obj, st_new, st_newarray, st_anewarray, st_multianewarray, st_table, st_lookup, pI_c, pL_c, pR_c, p1_i, p1_r, p1_n, iI_0, iI_s, iL_0, iL_s, iR_0, iR_s, rfV_s, kc_c, kl_c, cats_0, cats_i, cats_l, cats_r, rcv_c, rcvS_c, isRefA_c, cl_0, cl_1, cl_2, cl_3, cl_4, cl_5, cl_6, cl_7, set1_0, set1_1i, set1_1r, set1_1n, set1_s, set2_s, set2_1i, set2_1r, set2_1n, toL_s, toL_n, cnd, and_self, true_and, and_true, true_or, or_true, List.contains_nil, List.contains_cons, Bool.or_false, beq_iff_eq, Nat.reduceBEq, Nat.reduceEqDiff, Nat.reduceAdd, Nat.reduceLeDiff, Nat.reduceSub, Bool.false_eq_true, if_false, if_true, Nat.zero_le, Nat.add_zero, Nat.zero_add, Nat.le_refl, gN_sI, gN_sL, gN_sR, gR_sI, gR_sL, gR_sR, sh_0, sh_1, g0, g1, hd0, c00, c01, c04, c05, c06, c10, true_implies, false_implies, bI_t, bI_f, false_and, and_false, if_false, if_true, not_true_eq_false, not_false_eq_true]
  refine C_X9_within ?_
  rw [decide_eq_false hx]
  simp (maxSteps := 2000000) (decide := true) only [wp_s e_X9_desk_0, wp_s e_X9_desk_1, wp_s e_X9_desk_2, wp_s e_X9_desk_3, wp_s e_X9_desk_6, wp_s e_X9_desk_9, wp_s e_X9_desk_12, wp_s e_X9_desk_15, wp_s e_X9_desk_16, wp_s e_X9_desk_17, wp_s e_X9_desk_20, wp_s e_X9_desk_21, wp_s e_X9_desk_22, wp_s e_X9_desk_23, wp_s e_X9_desk_26, wp_s e_X9_desk_27, wp_s e_X9_desk_30, wp_s e_X9_desk_33, wp_s e_X9_desk_34, wp_s e_X9_desk_35, wp_s e_X9_desk_38, wp_s e_X9_desk_41, wp_s e_X9_desk_44, wp_s e_X9_desk_45, wp_s e_X9_desk_48, wp_s e_X9_desk_49, wp_s e_X9_desk_52, wp_s e_X9_desk_53, wp_s e_X9_desk_56, wp_s e_X9_desk_59, wp_s e_X9_desk_60, wp_s e_X9_desk_61, wp_s e_X9_desk_64, wp_s e_X9_desk_67, wp_s e_X9_desk_70, wp_s e_X9_desk_71, wp_s e_X9_desk_72, wp_s e_X9_desk_75, wp_s e_X9_desk_76, wp_s e_X9_desk_77, wp_s e_X9_desk_80, wp_s e_X9_desk_81, wp_s e_X9_desk_82, wp_s e_X9_desk_83, wp_s e_X9_desk_86, wp_s e_X9_desk_89, wp_s e_X9_desk_90, wp_s e_X9_desk_91, wp_s e_X9_desk_94, wp_s e_X9_desk_95, wp_s e_X9_desk_98, wp_s e_X9_desk_101, wp_s e_X9_desk_102, wp_s e_X9_desk_103, wp_s e_X9_desk_106, wp_s e_X9_desk_109, wp_s e_X9_desk_112, ↓reduceIte, st_iadd, st_isub, st_imul, st_iand, st_ior, st_ishl, st_ishr, st_idiv, st_irem, st_ladd, st_lsub, st_lmul, st_lor, st_land, st_ldiv, st_lshl, st_lcmp, st_i2l, st_i2b, st_l2i, st_i2c, st_iconst, st_bipush, st_sipush, st_lconst, st_ldc2_w, st_ldc_w, st_ldcI, st_ldcS, st_iload, st_iload_n, st_lload, st_lload_n, st_aload, st_aload_n, st_istore, st_istore_n, st_lstore, st_lstore_n, st_astore, st_astore_n, st_iinc, st_dup, st_pop, st_dup2, st_ifCond, st_if_icmp, st_goto, st_getI, st_getL, st_getR, st_putI, st_putL, st_putR, st_putZ, st_sval, st_scod, st_baload, st_baloadS, st_alen, st_alenS, st_gets1, st_getsF, st_iaload, st_laload, st_aaload, st_iastore, st_lastore, st_bastoreB, st_bastoreZ, st_aastore, st_iret, st_zret, st_cret, st_bret, st_return_, st_areturn, st_invV, st_invVS, st_invS, st_invI, st_minI, st_maxI, st_obj, st_new, st_newarray, st_anewarray, st_multianewarray, st_table, st_lookup, pI_c, pL_c, pR_c, p1_i, p1_r, p1_n, iI_0, iI_s, iL_0, iL_s, iR_0, iR_s, rfV_s, kc_c, kl_c, cats_0, cats_i, cats_l, cats_r, rcv_c, rcvS_c, isRefA_c, cl_0, cl_1, cl_2, cl_3, cl_4, cl_5, cl_6, cl_7, set1_0, set1_1i, set1_1r, set1_1n, set1_s, set2_s, set2_1i, set2_1r, set2_1n, toL_s, toL_n, cnd, and_self, true_and, and_true, true_or, or_true, List.contains_nil, List.contains_cons, Bool.or_false, beq_iff_eq, Nat.reduceBEq, Nat.reduceEqDiff, Nat.reduceAdd, Nat.reduceLeDiff, Nat.reduceSub, Bool.false_eq_true, if_false, if_true, Nat.zero_le, Nat.add_zero, Nat.zero_add, Nat.le_refl, gN_sI, gN_sL, gN_sR, gR_sI, gR_sL, gR_sR, sh_0, sh_1, g0, g1, hd0, c00, c01, c04, c05, c06, c10, true_implies, false_implies, bI_t, bI_f, false_and, and_false, if_false, if_true, not_true_eq_false, not_false_eq_true]
  refine C_X9_refuse hN ?_
  simp (maxSteps := 2000000) (decide := true) only [wp_s e_X9_desk_0, wp_s e_X9_desk_1, wp_s e_X9_desk_2, wp_s e_X9_desk_3, wp_s e_X9_desk_6, wp_s e_X9_desk_9, wp_s e_X9_desk_12, wp_s e_X9_desk_15, wp_s e_X9_desk_16, wp_s e_X9_desk_17, wp_s e_X9_desk_20, wp_s e_X9_desk_21, wp_s e_X9_desk_22, wp_s e_X9_desk_23, wp_s e_X9_desk_26, wp_s e_X9_desk_27, wp_s e_X9_desk_30, wp_s e_X9_desk_33, wp_s e_X9_desk_34, wp_s e_X9_desk_35, wp_s e_X9_desk_38, wp_s e_X9_desk_41, wp_s e_X9_desk_44, wp_s e_X9_desk_45, wp_s e_X9_desk_48, wp_s e_X9_desk_49, wp_s e_X9_desk_52, wp_s e_X9_desk_53, wp_s e_X9_desk_56, wp_s e_X9_desk_59, wp_s e_X9_desk_60, wp_s e_X9_desk_61, wp_s e_X9_desk_64, wp_s e_X9_desk_67, wp_s e_X9_desk_70, wp_s e_X9_desk_71, wp_s e_X9_desk_72, wp_s e_X9_desk_75, wp_s e_X9_desk_76, wp_s e_X9_desk_77, wp_s e_X9_desk_80, wp_s e_X9_desk_81, wp_s e_X9_desk_82, wp_s e_X9_desk_83, wp_s e_X9_desk_86, wp_s e_X9_desk_89, wp_s e_X9_desk_90, wp_s e_X9_desk_91, wp_s e_X9_desk_94, wp_s e_X9_desk_95, wp_s e_X9_desk_98, wp_s e_X9_desk_101, wp_s e_X9_desk_102, wp_s e_X9_desk_103, wp_s e_X9_desk_106, wp_s e_X9_desk_109, wp_s e_X9_desk_112, ↓reduceIte, st_iadd, st_isub, st_imul, st_iand, st_ior, st_ishl, st_ishr, st_idiv, st_irem, st_ladd, st_lsub, st_lmul, st_lor, st_land, st_ldiv, st_lshl, st_lcmp, st_i2l, st_i2b, st_l2i, st_i2c, st_iconst, st_bipush, st_sipush, st_lconst, st_ldc2_w, st_ldc_w, st_ldcI, st_ldcS, st_iload, st_iload_n, st_lload, st_lload_n, st_aload, st_aload_n, st_istore, st_istore_n, st_lstore, st_lstore_n, st_astore, st_astore_n, st_iinc, st_dup, st_pop, st_dup2, st_ifCond, st_if_icmp, st_goto, st_getI, st_getL, st_getR, st_putI, st_putL, st_putR, st_putZ, st_sval, st_scod, st_baload, st_baloadS, st_alen, st_alenS, st_gets1, st_getsF, st_iaload, st_laload, st_aaload, st_iastore, st_lastore, st_bastoreB, st_bastoreZ, st_aastore, st_iret, st_zret, st_cret, st_bret, st_return_, st_areturn, st_invV, st_invVS, st_invS, st_invI, st_minI, st_maxI, st_obj, st_new, st_newarray, st_anewarray, st_multianewarray, st_table, st_lookup, pI_c, pL_c, pR_c, p1_i, p1_r, p1_n, iI_0, iI_s, iL_0, iL_s, iR_0, iR_s, rfV_s, kc_c, kl_c, cats_0, cats_i, cats_l, cats_r, rcv_c, rcvS_c, isRefA_c, cl_0, cl_1, cl_2, cl_3, cl_4, cl_5, cl_6, cl_7, set1_0, set1_1i, set1_1r, set1_1n, set1_s, set2_s, set2_1i, set2_1r, set2_1n, toL_s, toL_n, cnd, and_self, true_and, and_true, true_or, or_true, List.contains_nil, List.contains_cons, Bool.or_false, beq_iff_eq, Nat.reduceBEq, Nat.reduceEqDiff, Nat.reduceAdd, Nat.reduceLeDiff, Nat.reduceSub, Bool.false_eq_true, if_false, if_true, Nat.zero_le, Nat.add_zero, Nat.zero_add, Nat.le_refl, gN_sI, gN_sL, gN_sR, gR_sI, gR_sL, gR_sR, sh_0, sh_1, g0, g1, hd0, c00, c01, c04, c05, c06, c10, true_implies, false_implies, bI_t, bI_f, false_and, and_false, if_false, if_true, not_true_eq_false, not_false_eq_true]
  exact h
/-- what the spare desk holds, and what the tape held, doesn't count -/
theorem InvB_spare (hr : ∀ a j, (31 ≤ a ∧ a ≤ 44) ∨ (b ≤ a ∧ a ≤ b + 21) ∨ (a = 89 ∧ (j = 15 ∨ j = 24 ∨ j = 31)) ∨ a = 91 ∨ ((a = 94 ∨ a = 95) ∧ j < 6) ∨ (96 ≤ a ∧ a ≤ 105) ∨ a = 11 ∨ a = 12 ∨ a = 20 ∨ a = 21 → gI σ1 a j = gI σ a j) (hR : gR σ1 = gR σ) (hN : gN σ1 = gN σ) (h1 : gI σ1 1 1 = 0) (h4 : gI σ1 89 4 = 0) (h8 : gI σ1 0 8 = gI σ1 89 10) (hI : InvB σ b b' nt np no K nx T B) : InvB σ1 b b' nt np no K nx 0 B := by
  have row : ∀ a, ((31 ≤ a ∧ a ≤ 44) ∨ (b ≤ a ∧ a ≤ b + 21) ∨ a = 91 ∨ (96 ≤ a ∧ a ≤ 105) ∨ a = 11 ∨ a = 12 ∨ a = 20 ∨ a = 21) → gI σ1 a = gI σ a := fun a ha => funext fun j => hr a j (by omega)
  obtain ⟨hC, ⟨hRf, hD, hO, hz2⟩, hDC, hOE, ⟨o1, o2, o3, o4⟩, ⟨hth, hth2⟩, hz, ⟨l1, l2, l3⟩, _, hf⟩ := hI
  have hb : (b = 45 ∨ b = 67) := by rcases hC.1 with h | h <;> omega
  have h91 := row 91 (by omega)
  have hn := hD.1
  refine ⟨ClsAt_R hR hN hC, ⟨RefAt_R hR hN hRf, DskR_row h91 hD, fun o ho => ?_, fun j hj => ?_⟩, ?_, ?_, ⟨fun o ho => ?_, fun p hp => ?_, fun p hp1 hp2 => ?_, ?_⟩, ⟨?_, hth2⟩, fun j hj => ?_, ⟨?_, ?_, fun q hq => ?_⟩, ⟨by omega, h1, h4, fun j hj => absurd hj (Nat.not_lt_zero j)⟩, h8⟩
  · exact OrdB_row (fun k => by rw [h91]) (hr 100 o (by omega)) (hr 94 (0 + o) (by omega)) (hr 95 (0 + o) (by omega)) (hO o ho)
  · rw [row 101 (by omega), row 102 (by omega)]; exact hz2 j hj
  · unfold DskC at hDC ⊢
    obtain ⟨c1, c2, c3, c4⟩ := hDC
    rw [h91, row b (by omega)]
    refine ⟨c1, c2, fun t ht => ?_, fun p hp => ?_⟩
    · rw [row (b + 4 + 3 * t) (by omega), row (b + 4 + 3 * t + 1) (by omega), row (b + 4 + 3 * t + 2) (by omega)]
      exact c3 t ht
    · rw [row (b + 13 + p) (by omega)]
      exact c4 p hp
  · exact OrdEq_row (fun o ho => row _ (by omega)) h91 (row 100 (by omega)) (fun o ho => hr 94 _ (by omega)) (fun o ho => hr 95 _ (by omega)) hOE
  · rw [row (b + 16 + o) (by omega), row 96 (by omega)]; exact o1 o ho
  · rw [row (b + 13 + p) (by omega), row 97 (by omega), row 98 (by omega), row 99 (by omega)]; exact o2 p hp
  · rw [row 97 (by omega), row 98 (by omega), row 99 (by omega)]; exact o3 p hp1 hp2
  · rw [row b (by omega), hr 89 24 (by omega)]; exact o4
  · rw [hr 89 15 (by omega)]; exact hth
  · rw [row 11 (by omega), row 12 (by omega), row 20 (by omega), row 21 (by omega)]; exact hz j hj
  · rw [row 31 (by omega), hr 89 31 (by omega)]; exact l1
  · rw [row 31 (by omega)]; exact l2
  · have hm : (nx + 12 - K + q) % 12 < 12 := Nat.mod_lt _ (by omega)
    rw [row (33 + (nx + 12 - K + q) % 12) (by omega), row 103 (by omega), row 104 (by omega), row 105 (by omega)]
    exact l3 q hq
theorem ClsAt_sw (h : ClsAt σ b b') (hR : gR τ = gR σ) (hN : gN τ = gN σ) : ClsAt (swS τ b b') b' b := by
  obtain ⟨hbb', ⟨c00, c01, c02, c03, c04, c05, c06⟩, ⟨c10, c38, c39, c4⟩, ⟨c31, c32⟩, hFig, hTri, hD45, hD67⟩ := h
  have e : ∀ a j, a ≠ 0 → gR (swS τ b b') a j = gR σ a j := by
    intro a j ha
    unfold swS
    rw [gR_sI, gR_sI, gR_sI, gR_sR, if_neg (fun z => ha z.1), gR_sR, if_neg (fun z => ha z.1), gR_sI, gR_sI, hR]
  have e0 : ∀ j, j < 5 → gR (swS τ b b') 0 j = gR σ 0 j := by
    intro j hj
    unfold swS
    rw [gR_sI, gR_sI, gR_sI, gR_sR, if_neg (fun z => by omega), gR_sR, if_neg (fun z => by omega), gR_sI, gR_sI, hR]
  have hN' : gN (swS τ b b') = gN σ := hN
  refine ⟨by omega, ⟨?_, ?_, ?_, ?_, ?_, ?_, ?_⟩, ⟨?_, ?_, ?_, fun i hi => ?_⟩, ⟨?_, fun i hi => ?_⟩, ?_, ?_, ?_, ?_⟩
  · rw [e0 0 (by omega)]; exact c00
  · rw [e0 1 (by omega)]; exact c01
  · rw [e0 2 (by omega)]; exact c02
  · rw [e0 3 (by omega)]; exact c03
  · rw [e0 4 (by omega)]; exact c04
  · rfl
  · rfl
  · rw [e 1 0 (by omega)]; exact c10
  · rw [e 3 8 (by omega)]; exact c38
  · rw [e 3 9 (by omega)]; exact c39
  · rw [e 4 i (by omega)]; exact c4 i hi
  · rw [e 31 0 (by omega)]; exact c31
  · rw [e 32 i (by omega)]; exact c32 i hi
  · unfold FigAt at hFig ⊢
    rw [hN', e 9 0 (by omega), e 9 1 (by omega), e 9 2 (by omega), e 9 5 (by omega), e 9 6 (by omega), e 9 7 (by omega)]
    exact hFig
  · unfold TriAt FigAt OrdAt at hTri ⊢
    rw [hN', e 16 0 (by omega), e 16 1 (by omega), e 18 0 (by omega), e 18 1 (by omega), e 18 2 (by omega), e 18 5 (by omega), e 18 6 (by omega), e 18 7 (by omega)]
    refine ⟨hTri.1, hTri.2.1, hTri.2.2.1, hTri.2.2.2.1, hTri.2.2.2.2.1, hTri.2.2.2.2.2.1, hTri.2.2.2.2.2.2.1, hTri.2.2.2.2.2.2.2.1, fun o ho => ?_⟩
    rw [e 17 o (by omega)]
    exact hTri.2.2.2.2.2.2.2.2 o ho
  · unfold DeskAt at hD45 ⊢
    rw [hN', e 45 0 (by omega), e 45 1 (by omega), e 45 2 (by omega)]
    refine ⟨hD45.1, hD45.2.1, hD45.2.2.1, hD45.2.2.2.1, hD45.2.2.2.2.1, fun t ht => ?_, fun p hp => ?_, fun o ho => ?_⟩
    · rw [e _ t (by omega), e _ 0 (by omega), e _ 1 (by omega)]; exact hD45.2.2.2.2.2.1 t ht
    · rw [e _ p (by omega)]; exact hD45.2.2.2.2.2.2.1 p hp
    · rw [e _ o (by omega)]; exact hD45.2.2.2.2.2.2.2 o ho
  · unfold DeskAt at hD67 ⊢
    rw [hN', e 67 0 (by omega), e 67 1 (by omega), e 67 2 (by omega)]
    refine ⟨hD67.1, hD67.2.1, hD67.2.2.1, hD67.2.2.2.1, hD67.2.2.2.2.1, fun t ht => ?_, fun p hp => ?_, fun o ho => ?_⟩
    · rw [e _ t (by omega), e _ 0 (by omega), e _ 1 (by omega)]; exact hD67.2.2.2.2.2.1 t ht
    · rw [e _ p (by omega)]; exact hD67.2.2.2.2.2.2.1 p hp
    · rw [e _ o (by omega)]; exact hD67.2.2.2.2.2.2.2 o ho
theorem RefAt_sw (h : RefAt σ) (hR : gR τ = gR σ) (hN : gN τ = gN σ) : RefAt (swS τ b b') := by
  have e : ∀ j, gR (swS τ b b') 89 j = gR σ 89 j := by
    intro j
    unfold swS
    rw [gR_sI, gR_sI, gR_sI, gR_sR, if_neg (fun z => absurd z.1 (by decide)), gR_sR, if_neg (fun z => absurd z.1 (by decide)), gR_sI, gR_sI, hR]
  have hN' : gN (swS τ b b') = gN σ := hN
  unfold RefAt at h ⊢
  simp only [e, hN']
  exact h
theorem DskR_of {R : Nat → Int32} (h : RB R nt np no) (e : ∀ j, j < 87 → gI σ 91 j = R j) : DskR σ nt np no := by
  obtain ⟨⟨b1, b2, b3⟩, ⟨c1, c2, c3⟩, hT, ⟨k0, k1, k2⟩, hP, hO⟩ := h
  refine ⟨⟨b1, b2, b3⟩, ?_, fun t ht => ?_, ?_, ?_, ?_, fun p hp => ?_⟩
  · rw [e 3 (by omega), e 4 (by omega), e 5 (by omega)]; exact ⟨c1, c2, c3⟩
  · obtain ⟨m, m1, ⟨m2, m3, m4⟩, m5⟩ := hT t ht
    rw [e (9 + t) (by omega), e (6 + t) (by omega)]
    refine ⟨m, m1, ⟨m2, fun i hi => ?_, fun i hi => ?_⟩, m5⟩
    · rw [e _ (by omega), e _ (by omega)]; exact m3 i hi
    · rw [e _ (by omega), e _ (by omega)]; exact m4 i hi
  · rw [e 0 (by omega)]; exact k0
  · rw [e 1 (by omega)]; exact k1
  · rw [e 2 (by omega)]; exact k2
  · rw [e _ (by omega)]; exact hP p hp
theorem OrdB_of {R : Nat → Int32} (h : OrdR R nt o) (ho : o < 6) (hB : 0 ≤ B) (e : ∀ j, j < 87 → gI σ 91 j = R j) (z : gI σ 94 o = 0 ∧ gI σ 95 o = 0 ∧ gI σ 96 o = 0 ∧ gI σ 100 o = 0) : OrdB σ nt 0 o B := by
  obtain ⟨h1, h2, h3, h4⟩ := h
  have z0 : (0 : Int32).toInt = 0 := rfl
  have e94 : gI σ 94 (0 + o) = 0 := by rw [Nat.zero_add]; exact z.1
  have e95 : gI σ 95 (0 + o) = 0 := by rw [Nat.zero_add]; exact z.2.1
  have e63 := e (63 + o) (by omega)
  unfold OrdB rRest
  rw [e94, e95, e (51 + o) (by omega), e (57 + o) (by omega), e63, e (69 + o) (by omega), e (75 + o) (by omega), z.2.2.2, z0]
  refine ⟨h1, h2, h3, h4, Or.inl rfl, ⟨by omega, hB⟩, fun _ => h3.1, by omega, ?_⟩
  split
  · decide
  · rw [Int32.sub_zero]; exact h3.1
set_option maxRecDepth 10000 in
theorem PA_desk (hd : 14 ≤ d) (hI : InvB σ b b' nt np no K nx T (999999 * cc)) : Pair d q_X9_desk q_X10_desk [.ref 0, .int x] [.ref 89, .int x] σ (fun σ2 => INV σ2 (cc + 1)) := by
  have hI0 := hI
  obtain ⟨hCls, hJ, hDC, hOE, hOld, hTh, hZr, hLg, hTp, hFa⟩ := hI
  have hN : gN σ = 107 := hJ.1.1
  have hbb := hCls.1
  obtain ⟨t1, t2, t3, t4⟩ := hTp
  by_cases hx : 0 ≤ x ∧ x ≤ nI T
  rotate_left
  · have hx1 : ¬ (0 ≤ x ∧ x ≤ gI σ 1 1) := by rw [t2]; exact hx
    refine RO_pair (tr := 2) (ans := -1) (by decide) hI0 (fun Rt h => C_X9_desk_n (by omega) hCls hN hx1 (h _ ⟨⟨rfl, rfl, rfl, fun a j z => gI_ne (by unfold SC at z; omega)⟩, gI_same, fun j hj => ?_⟩)) (fun σ1 r1 hI1 Rt h => ?_)
    · have := hZr j hj
      rw [gI_ne (by omega), gI_ne (by omega), gI_ne (by omega), gI_ne (by omega)]
      exact this
    · have hx2 : ¬ (0 ≤ x ∧ x ≤ gI σ1 89 4) := by rw [hI1.2.2.2.2.2.2.2.2.1.2.2.1]; exact hx
      refine C_X10_desk_n hI1.2.1.1 hx2 (h _ ⟨⟨rfl, rfl, rfl, fun a j z => ?_⟩, ?_, gI_same, fun j hj => ?_⟩) (by omega)
      · rw [gI_ne (by unfold SR at z; omega), gI_ne (by unfold SR at z; omega), gI_ne (by unfold SR at z; omega)]
      · rw [gI_ne (by omega), gI_same]
      · have := hI1.2.1.2.2.2 j hj
        rw [gI_ne (by omega), gI_ne (by omega), gI_ne (by omega), gI_ne (by omega), gI_ne (by omega), gI_ne (by omega)]
        exact this
  obtain ⟨N, hNT, rfl⟩ : ∃ N, N ≤ T ∧ x = nI N := by
    obtain ⟨o, ho, e⟩ := in_of (i := x) (n := T + 1) (by omega) ⟨hx.1, by
      have h2 := hx.2
      rw [fa_le, nI_toInt (by omega)] at h2
      rw [fa_lt, nI_toInt (by omega)]
      omega⟩
    exact ⟨o, by omega, e⟩
  have eAll : allP (gI σ 2) N (gL σ 93) (gI σ 92) = allP (gI σ 90) N (gL σ 93) (gI σ 92) := cg_all (fun i => tok_cg (fun j hj => (t4 j (by omega)).1))
  have hByt : Byt (gI σ 90) N := fun j hj => by rw [← (t4 j (by omega)).1]; exact (t4 j (by omega)).2
  have hTc : nI N ≤ gI σ 1 1 := by rw [t2]; exact hx.2
  have hTr : nI N ≤ gI σ 89 4 := by rw [t3]; exact hx.2
  by_cases hs : (allP (gI σ 2) N (gL σ 93) (gI σ 92)).1 = 0
  rotate_left
  · refine ⟨-1, fun σ1 => FrX (SPd b') LCr σ σ1 ∧ gI σ1 0 7 = 4 ∧ gI σ1 0 8 = (allP (gI σ 2) N (gL σ 93) (gI σ 92)).1 ∧ gI σ1 0 9 = nI (allP (gI σ 2) N (gL σ 93) (gI σ 92)).2.1.1 ∧ gI σ1 1 1 = 0, fun Rt h => ?_, ?_⟩
    · exact C_X9_desk (by omega) hCls hN rfl (by omega) hTc (fun σ1 f1 _ a b c e => h σ1 ⟨f1, a, b, c, e⟩) (fun τ _ _ z => absurd z hs)
    · rintro σ1 ⟨f1, a7, a8, a9, a11⟩ Rt h
      have r90 : gI σ1 90 = gI σ 90 := f1.row (fun j z => by unfold SPd SCq SCr at z; omega)
      have r92 : gI σ1 92 = gI σ 92 := f1.row (fun j z => by unfold SPd SCq SCr at z; omega)
      have r93 : gL σ1 93 = gL σ 93 := f1.Lrow (fun j z => by unfold LCr at z; omega)
      have r4 : gI σ1 89 4 = gI σ 89 4 := f1.I (by unfold SPd SCq SCr; omega)
      have eA : allP (gI σ 90) N (gL σ1 93) (gI σ1 92) = allP (gI σ 2) N (gL σ 93) (gI σ 92) := by rw [r92, r93, eAll]
      refine C_X10_desk (by omega) (RefAt_R f1.1 f1.2.1 hJ.1) r90 hByt (by omega) (by rw [r4]; exact hTr) (fun σ2 f2 i2 j2 _ b4 b10 b1 b2 => h σ2 ?_) (fun σ2 _ z => absurd (by rw [← eA]; exact z) hs)
      rw [eA] at b10 b2
      have c07 : gI σ2 0 7 = 4 := (f2.I (by unfold SDk; omega)).trans a7
      refine ⟨b, b', nt, np, no, K, nx, 0, InvB_mono (InvB_spare (fun a j z => ?_) (f2.1.trans f1.1) (f2.2.1.trans f1.2.1) ((f2.I (by unfold SDk; omega)).trans a11) b4 ?_ hI0) (by omega), ?_, ?_⟩
      · have hS : ¬ SPd b' a j := by unfold SPd SCq SCr; omega
        by_cases h89 : a = 89
        · subst h89
          rw [j2 j (by omega)]
          exact f1.I hS
        · by_cases h91 : 91 ≤ a
          · rw [i2 a j h91 (by omega)]
            exact f1.I hS
          · rw [f2.I (by unfold SDk; omega)]
            exact f1.I hS
      · rw [b10, f2.I (by unfold SDk; omega)]; exact a8
      · rw [c07, b1]
      · rw [c07, if_pos rfl, b2, f2.I (by unfold SDk; omega)]; exact a9
  · refine ⟨(allP (gI σ 2) N (gL σ 93) (gI σ 92)).2.2.2.2 5, fun σ1 => ∃ τ, FrX (SCq b') LCr σ τ ∧ CL τ (gI σ 2) N b' (allP (gI σ 2) N (gL σ 93) (gI σ 92)) ∧ σ1 = swS τ b b', fun Rt h => ?_, ?_⟩
    · refine C_X9_desk (by omega) hCls hN rfl (by omega) hTc (fun σ1 _ z => absurd hs z) (fun τ fτ cτ _ => ?_)
      obtain ⟨_, _, _, mt, mp, mo, hB, _, _, hE⟩ := id cτ
      rw [hE.1.2.2.1, ← hB.2.1.2.2]
      exact h _ ⟨τ, fτ, cτ, rfl⟩
    · rintro σ1 ⟨τ, fτ, cτ, rfl⟩ Rt h
      have i1 : ∀ a j, a ≠ 0 → a ≠ 1 → a ≠ 31 → gI (swS τ b b') a j = gI τ a j := by
        intro a j z1 z2 z3
        unfold swS
        rw [gI_ne (by omega), gI_ne (by omega), gI_ne (by omega), gI_sR, gI_sR, gI_ne (by omega), gI_ne (by omega)]
      have rowτ : ∀ a, 89 ≤ a → gI (swS τ b b') a = gI σ a := by
        intro a ha
        funext j
        rw [i1 a j (by omega) (by omega) (by omega)]
        exact fτ.I (by unfold SCq SCr; omega)
      have r93 : gL (swS τ b b') 93 = gL σ 93 := fτ.Lrow (fun j z => by unfold LCr at z; omega)
      have eA : allP (gI σ 90) N (gL (swS τ b b') 93) (gI (swS τ b b') 92) = allP (gI σ 2) N (gL σ 93) (gI σ 92) := by rw [r93, rowτ 92 (by omega), eAll]
      have hRf := RefAt_sw (b := b) (b' := b') hJ.1 fτ.1 fτ.2.1
      refine C_X10_desk (by omega) hRf (rowτ 90 (by omega)) hByt (by omega) (by rw [rowτ 89 (by omega)]; exact hTr) (fun σ2 _ _ _ z => absurd (by rw [eA]; exact hs) z) (fun σ2 f2 _ b4 b10 b1 b2 b15 b24 b31 e91 z6 z3 => ?_)
      rw [eA]
      rw [eA] at e91
      refine h σ2 ?_
      obtain ⟨mt, mp, mo, hB, hmp⟩ := LB_all hs
      obtain ⟨_, hDb, _, at', ap, ao, hB', hzz, _, hE⟩ := cτ
      have hE' := hE
      have hBu := RB_un hB' hB.2.1.1 hB.2.1.2.1 hB.2.1.2.2 (by have := hB.1; omega)
      have u1 : at' = mt := (nI_inj (by have := hB'.1; omega) (by have := hB.1; omega)).mp (hB'.2.1.1.symm.trans hB.2.1.1)
      have u2 : ap = mp := (nI_inj (by have := hB'.1; omega) (by have := hB.1; omega)).mp (hB'.2.1.2.1.symm.trans hB.2.1.2.1)
      have u3 : ao = mo := (nI_inj (by have := hB'.1; omega) (by have := hB.1; omega)).mp (hB'.2.1.2.2.symm.trans hB.2.1.2.2)
      subst u1 u2 u3
      obtain ⟨n1, n2, n3⟩ := hB.1
      have hd2 : (allP (gI σ 2) N (gL σ 93) (gI σ 92)).2.2.1 = true := by
        cases hq : (allP (gI σ 2) N (gL σ 93) (gI σ 92)).2.2.1
        · have := hzz hq
          omega
        · rfl
      generalize allP (gI σ 2) N (gL σ 93) (gI σ 92) = s at *
      obtain ⟨⟨d3, d4, d5, d9⟩, dk, dT, dP, dO⟩ := hE'
      obtain ⟨dk0, dk1, dk2⟩ := dk hd2
      have hb2 : b' = 45 ∨ b' = 67 := hDb.2.1
      -- the class's cells at the end
      have lo : ∀ a j, a < 89 → gI σ2 a j = gI (swS τ b b') a j := fun a j z => f2.I (by unfold SDk; omega)
      have cl : ∀ a j, b' ≤ a → a ≤ b' + 21 → gI σ2 a j = gI τ a j := fun a j z1 z2 => by rw [lo a j (by omega), i1 a j (by omega) (by omega) (by omega)]
      have sw7 : gI (swS τ b b') 0 7 = 0 := gI_same
      have sw8 : gI (swS τ b b') 0 8 = 0 := by
        unfold swS
        rw [gI_ne (by omega), gI_ne (by omega), gI_ne (by omega), gI_sR, gI_sR, gI_ne (by omega), gI_same]
      have sw1 : gI (swS τ b b') 1 1 = 0 := by
        unfold swS
        rw [gI_ne (by omega), gI_ne (by omega), gI_ne (by omega), gI_sR, gI_sR, gI_same]
      have sw31 : gI (swS τ b b') 31 1 = 0 ∧ gI (swS τ b b') 31 2 = 0 := by
        unfold swS
        exact ⟨by rw [gI_ne (by omega), gI_ne (by omega), gI_same], by rw [gI_ne (by omega), gI_same]⟩
      have hp0 : ∀ p, p < 3 → True := fun _ _ => trivial
      refine ⟨b', b, at', ap, ao, 0, 0, 0, ⟨?_, ⟨?_, DskR_of hB e91, fun o ho => OrdB_of (hB.2.2.2.2.2 o ho) (by omega) (by omega) e91 (z6 o (by omega)), fun j hj => ?_⟩, ⟨?_, ?_, fun t ht => ?_, fun p hp => ?_⟩, fun o ho => ?_, ⟨fun o ho => ?_, fun p hp => ?_, fun p hp1 hp2 => z3 p hp2, ?_⟩, ⟨?_, fun z => by omega⟩, fun j hj => ?_, ⟨⟨?_, ?_, by omega⟩, ⟨?_, by omega⟩, fun q hq => absurd hq (Nat.not_lt_zero q)⟩, ⟨by omega, ?_, b4, fun j hj => absurd hj (Nat.not_lt_zero j)⟩, ?_⟩, ?_, ?_⟩
      · exact ClsAt_R f2.1 f2.2.1 (ClsAt_sw hCls fτ.1 fτ.2.1)
      · exact RefAt_R f2.1 f2.2.1 hRf
      · have := hJ.2.2.2 j hj
        rw [f2.I (by unfold SDk; omega), f2.I (by unfold SDk; omega), rowτ 101 (by omega), rowτ 102 (by omega)]
        exact this
      · rw [cl b' 3 (by omega) (by omega), cl b' 4 (by omega) (by omega), cl b' 5 (by omega) (by omega)]
        exact ⟨d3, d4, d5⟩
      · rw [cl b' 6 (by omega) (by omega), cl b' 7 (by omega) (by omega), cl b' 8 (by omega) (by omega), e91 0 (by omega), e91 1 (by omega), e91 2 (by omega)]
        exact ⟨dk0, dk1, dk2⟩
      · obtain ⟨y1, y2, y3⟩ := dT t ht
        rw [cl _ 2 (by omega) (by omega), cl _ 3 (by omega) (by omega), e91 (9 + t) (by omega), e91 (6 + t) (by omega)]
        refine ⟨y1, y2, fun mm hmm zz i hi => ?_⟩
        rw [cl _ i (by omega) (by omega), cl _ i (by omega) (by omega), e91 _ (by omega), e91 _ (by omega)]
        exact y3 mm hmm zz i hi
      · rw [cl _ 0 (by omega) (by omega), e91 _ (by omega)]
        exact (dP p hp).1
      · obtain ⟨y1, y6, y7, y8, y9⟩ := dO o ho
        obtain ⟨x94, x95, x96, x100⟩ := z6 o (by omega)
        refine ⟨fun j hj => ?_, ?_, ?_, ?_⟩
        · rw [cl _ j (by omega) (by omega), e91 _ (by omega)]; exact y1 j hj
        · rw [cl _ 6 (by omega) (by omega), x100]; exact y6
        · rw [cl _ 7 (by omega) (by omega), Nat.zero_add, x94]; exact y7
        · rw [cl _ 8 (by omega) (by omega), Nat.zero_add, x95]; exact y8
      · rw [cl _ 9 (by omega) (by omega), (z6 o (by omega)).2.2.1]
        exact (dO o ho).2.2.2.2
      · obtain ⟨y0, y1, y2, y3⟩ := dP p hp
        obtain ⟨x97, x98, x99⟩ := z3 p (by omega)
        rw [cl _ 1 (by omega) (by omega), cl _ 2 (by omega) (by omega), cl _ 3 (by omega) (by omega), x97, x98, x99]
        exact ⟨y1, y2, y3⟩
      · rw [cl b' 9 (by omega) (by omega), b24]; exact d9
      · rw [b15, decide_eq_true hmp]; rfl
      · have := hZr j hj
        have e : ∀ a, a = 11 ∨ a = 12 ∨ a = 20 ∨ a = 21 → gI σ2 a j = gI σ a j := fun a ha => by rw [lo a j (by omega), i1 a j (by omega) (by omega) (by omega)]; exact fτ.I (by unfold SCq SCr; omega)
        rw [e 11 (by omega), e 12 (by omega), e 20 (by omega), e 21 (by omega)]
        exact this
      · rw [lo 31 1 (by omega)]; exact sw31.1
      · exact b31
      · rw [lo 31 2 (by omega)]; exact sw31.2
      · rw [lo 1 1 (by omega)]; exact sw1
      · rw [lo 0 8 (by omega), b10]; exact sw8
      · rw [lo 0 7 (by omega), b1]; exact sw7
      · rw [lo 0 7 (by omega), sw7, if_neg (by decide)]; exact b2.symm
end PADESK
