/-- the cells of a figure -/
def FigAt (σ : St) (f : Nat) : Prop := gN σ = 107 ∧ (f = 9 ∨ f = 18) ∧ gR σ f 0 = some (f + 1) ∧ gR σ f 1 = some (f + 2) ∧ gR σ f 2 = some (f + 3) ∧ gR σ f 5 = some (f + 4) ∧ gR σ f 6 = some (f + 5) ∧ gR σ f 7 = some (f + 6)
theorem fsh (f : Nat) (h : f = 9 ∨ f = 18) : sh f = (0, 1) ∧ sh (f + 1) = (3, 6) ∧ sh (f + 2) = (1, 6) ∧ sh (f + 3) = (1, 6) ∧ sh (f + 4) = (1, 6) ∧ sh (f + 5) = (1, 6) ∧ sh (f + 6) = (1, 6) := by
  rcases h with rfl | rfl <;> decide
/-- what was taken, what is left: the state with others in their place -/
def wrC (σ : St) (f : Nat) (G : Nat → Int32) (L : Int32) : St := (fun a b => if a = f + 3 then G b else if a = f ∧ b = 4 then L else σ.1 a b, σ.2)
/-- through the group's first c -/
def passL (gr : Nat → Nat) (amt : (Nat → Int32) × Int32 → Nat → Int32) : Nat → (Nat → Int32) × Int32 → (Nat → Int32) × Int32
  | 0, s => s
  | c + 1, s => gv (passL gr amt c s) (gr c) (amt (passL gr amt c s) (gr c))
section FIG
variable {d f c n0 : Nat} {σ : St} {Rt : Option Value → St → Prop} {G : Nat → Int32} {L : Int32} {s : (Nat → Int32) × Int32} {gr : Nat → Nat}
theorem gR_wrC : gR (wrC σ f G L) = gR σ := rfl
theorem gN_wrC : gN (wrC σ f G L) = gN σ := rfl
theorem FigAt_wrC (h : FigAt σ f) : FigAt (wrC σ f G L) f := h
theorem gI_wrC_t : gI (wrC σ f G L) (f + 3) = G := by
  funext b
  exact if_pos rfl
theorem gI_wrC_l : gI (wrC σ f G L) f 4 = L := by
  show (if f = f + 3 then G 4 else if f = f ∧ 4 = 4 then L else σ.1 f 4) = L
  rw [if_neg (by omega), if_pos ⟨rfl, rfl⟩]
theorem gI_wrC_o {a : Nat} (h : a ≠ f + 3 ∧ a ≠ f) : gI (wrC σ f G L) a = gI σ a := by
  funext b
  show (if a = f + 3 then G b else if a = f ∧ b = 4 then L else σ.1 a b) = _
  rw [if_neg h.1, if_neg (fun z => h.2 z.1)]
  rfl
theorem gI_wrC_f {b : Nat} (h : b ≠ 4) : gI (wrC σ f G L) f b = gI σ f b := by
  show (if f = f + 3 then G b else if f = f ∧ b = 4 then L else σ.1 f b) = _
  rw [if_neg (by omega), if_neg (fun z => h z.2)]
  rfl
theorem wrC_give {o : Nat} {x : Int32} : sI (sI (wrC σ f G L) (f + 3) o (G o + x)) f 4 (L - x) = wrC σ f (upd G o (G o + x)) (L - x) := by
  refine congrArg (fun z => (z, σ.2)) ?_
  funext a b
  show u2 (u2 (wrC σ f G L).1 (f + 3) o (G o + x)) f 4 (L - x) a b = (if a = f + 3 then upd G o (G o + x) b else if a = f ∧ b = 4 then L - x else σ.1 a b)
  by_cases h1 : a = f + 3
  · subst h1
    by_cases h2 : b = o
    · subst h2; simp [u2, upd]
    · simp [u2, upd, h2, wrC]
  · by_cases h3 : a = f ∧ b = 4
    · obtain ⟨rfl, rfl⟩ := h3; simp [u2]
    · simp [u2, h1, h3, wrC]
set_option maxRecDepth 10000 in
theorem C_X1_give {o : Nat} {x : Int32} (hF : FigAt σ f) (ho : o < 6) (h : Rt none (wrC σ f (upd G o (G o + x)) (L - x))) : Con d q_X1_give 0 0 [.ref f, .int (nI o), .int x] (wrC σ f G L) Rt := by
  have hF0 := hF
  obtain ⟨hN, hf, r0, r1, r2, r5, r6, r7⟩ := hF
  obtain ⟨s0, s1, s2, s3, s4, s5, s6⟩ := fsh f hf
  have hb0 : f < gN σ := by omega
  have hb1 : f + 1 < gN σ := by omega
  have hb2 : f + 2 < gN σ := by omega
  have hb3 : f + 3 < gN σ := by omega
  have hb4 : f + 4 < gN σ := by omega
  have hb5 : f + 5 < gN σ := by omega
  have hb6 : f + 6 < gN σ := by omega
  have hw2 : ∀ (G : Nat → Int32) (L : Int32), gI (wrC σ f G L) (f + 2) = gI σ (f + 2) := fun G L => gI_wrC_o (by omega)
  have hw6 : ∀ (G : Nat → Int32) (L : Int32), gI (wrC σ f G L) (f + 6) = gI σ (f + 6) := fun G L => gI_wrC_o (by omega)
  have hw9 : ∀ (G : Nat → Int32) (L : Int32), gI (wrC σ f G L) f 9 = gI σ f 9 := fun G L => gI_wrC_f (by decide)
  have hcl : (nI o).toNatClampNeg = o := nI_clamp (by omega)
  have hv6 : vp_in (nI o) 6 := vp_in_nI (by omega) (by omega)
  have hg : ∀ (σ' : St) (v : Int32), gI (sI σ' (f + 3) o v) f 4 = gI σ' f 4 := fun σ' v => gI_ne (Or.inl (by omega))
  refine Con_of_X (ls := [.ref f, .int (nI o), .int x]) rfl (Nat.le_of_ble_eq_true rfl) rfl ?_
  refine X_wp [] ck_X1_give 17 ?_
  simp (decide := true) only [wp_s e_X1_give_0, wp_s e_X1_give_1, wp_s e_X1_give_4, wp_s e_X1_give_5, wp_s e_X1_give_6, wp_s e_X1_give_7, wp_s e_X1_give_8, wp_s e_X1_give_9, wp_s e_X1_give_10, wp_s e_X1_give_11, wp_s e_X1_give_12, wp_s e_X1_give_15, wp_s e_X1_give_16, wp_s e_X1_give_17, wp_s e_X1_give_20, st_iadd, st_isub, st_imul, st_iand, st_ior, st_ishl, st_ishr, st_idiv, st_irem, st_ladd, st_lsub, st_lmul, st_lor, st_land, st_ldiv, st_lshl, st_lcmp, st_i2l, st_i2b, st_l2i, st_i2c, st_iconst, st_bipush, st_sipush, st_lconst, st_ldc2_w, st_ldc_w, st_ldcI, st_ldcS, st_iload, st_iload_n, st_lload, st_lload_n, st_aload, st_aload_n, st_istore, st_istore_n, st_lstore, st_lstore_n, st_astore, st_astore_n, st_iinc, st_dup, st_pop, st_dup2, st_ifCond, st_if_icmp, st_goto, st_getI, st_getL, st_getR, st_putI, st_putL, st_putR, st_putZ, st_sval, st_scod, st_baload, st_baloadS, st_alen, st_alenS, st_gets1, st_getsF, st_iaload, st_laload, st_aaload, st_iastore, st_lastore, st_bastoreB, st_bastoreZ, st_aastore, st_iret, st_zret, st_cret, st_bret, st_return_, st_areturn, st_invV, st_invVS, st_invS, st_invI, st_min, st_max, st_obj, st_new, st_newarray, st_anewarray, st_multianewarray, st_table, st_lookup, pI_c, pL_c, pR_c, p1_i, p1_r, p1_n, iI_0, iI_s, iL_0, iL_s, iR_0, iR_s, rfV_s, kc_c, kl_c, cats_0, cats_i, cats_l, cats_r, rcv_c, rcvS_c, isRefA_c, cl_0, cl_1, cl_2, cl_3, cl_4, cl_5, cl_6, cl_7, set1_0, set1_1i, set1_1r, set1_1n, set1_s, set2_s, set2_1i, set2_1r, set2_1n, toL_s, toL_n, cnd, and_self, true_and, and_true, true_or, or_true, List.contains_nil, List.contains_cons, Bool.or_false, beq_iff_eq, Nat.reduceBEq, Nat.reduceEqDiff, Nat.reduceAdd, Nat.reduceLeDiff, Nat.reduceSub, Bool.false_eq_true, if_false, if_true, Nat.zero_le, Nat.add_zero, Nat.zero_add, Nat.le_refl, gN_sI, gN_sL, gN_sR, gR_sI, gR_sL, gR_sR, s0, s1, s2, s3, s4, s5, s6, hb0, hb1, hb2, hb3, hb4, hb5, hb6, r0, r1, r2, r5, r6, r7, gR_wrC, gN_wrC, gI_wrC_t, gI_wrC_l, hw2, hw6, hw9, hcl, hv6, hg]
  rw [wrC_give]
  exact h
set_option maxRecDepth 10000 in
theorem C_X1_giveAll (hd : 1 ≤ d) (hF : FigAt σ f) (hc6 : c ≤ 6) (hc : gI σ f 9 = nI c) (hg : ∀ k, k < c → gr k < 6 ∧ gI σ (f + 6) k = nI (gr k)) (h : Rt none (wrC σ f (passL gr (fun u o => gI σ (f + 2) o - u.1 o) c s).1 (passL gr (fun u o => gI σ (f + 2) o - u.1 o) c s).2)) : Con d q_X1_giveAll 0 0 [.ref f] (wrC σ f s.1 s.2) Rt := by
  have hF0 := hF
  obtain ⟨hN, hf, r0, r1, r2, r5, r6, r7⟩ := hF
  obtain ⟨s0, s1, s2, s3, s4, s5, s6⟩ := fsh f hf
  have hb0 : f < gN σ := by omega
  have hb1 : f + 1 < gN σ := by omega
  have hb2 : f + 2 < gN σ := by omega
  have hb3 : f + 3 < gN σ := by omega
  have hb4 : f + 4 < gN σ := by omega
  have hb5 : f + 5 < gN σ := by omega
  have hb6 : f + 6 < gN σ := by omega
  have hw2 : ∀ (G : Nat → Int32) (L : Int32), gI (wrC σ f G L) (f + 2) = gI σ (f + 2) := fun G L => gI_wrC_o (by omega)
  have hw6 : ∀ (G : Nat → Int32) (L : Int32), gI (wrC σ f G L) (f + 6) = gI σ (f + 6) := fun G L => gI_wrC_o (by omega)
  have hw9 : ∀ (G : Nat → Int32) (L : Int32), gI (wrC σ f G L) f 9 = gI σ f 9 := fun G L => gI_wrC_f (by decide)
  have hd0 : 0 < d := by omega
  refine Con_of_X (ls := [.ref f, .null, .null]) rfl (Nat.le_of_ble_eq_true rfl) rfl ?_
  refine X_wp [2] ck_X1_giveAll 28 ?_
  simp (decide := true) only [wp_s e_X1_giveAll_0, wp_s e_X1_giveAll_1, wp_s e_X1_giveAll_2, wp_s e_X1_giveAll_3, wp_s e_X1_giveAll_4, wp_s e_X1_giveAll_7, wp_s e_X1_giveAll_10, wp_s e_X1_giveAll_11, wp_s e_X1_giveAll_14, wp_s e_X1_giveAll_15, wp_s e_X1_giveAll_16, wp_s e_X1_giveAll_17, wp_s e_X1_giveAll_18, wp_s e_X1_giveAll_19, wp_s e_X1_giveAll_20, wp_s e_X1_giveAll_23, wp_s e_X1_giveAll_24, wp_s e_X1_giveAll_25, wp_s e_X1_giveAll_26, wp_s e_X1_giveAll_29, wp_s e_X1_giveAll_30, wp_s e_X1_giveAll_31, wp_s e_X1_giveAll_32, wp_s e_X1_giveAll_35, wp_s e_X1_giveAll_38, wp_s e_X1_giveAll_41, st_iadd, st_isub, st_imul, st_iand, st_ior, st_ishl, st_ishr, st_idiv, st_irem, st_ladd, st_lsub, st_lmul, st_lor, st_land, st_ldiv, st_lshl, st_lcmp, st_i2l, st_i2b, st_l2i, st_i2c, st_iconst, st_bipush, st_sipush, st_lconst, st_ldc2_w, st_ldc_w, st_ldcI, st_ldcS, st_iload, st_iload_n, st_lload, st_lload_n, st_aload, st_aload_n, st_istore, st_istore_n, st_lstore, st_lstore_n, st_astore, st_astore_n, st_iinc, st_dup, st_pop, st_dup2, st_ifCond, st_if_icmp, st_goto, st_getI, st_getL, st_getR, st_putI, st_putL, st_putR, st_putZ, st_sval, st_scod, st_baload, st_baloadS, st_alen, st_alenS, st_gets1, st_getsF, st_iaload, st_laload, st_aaload, st_iastore, st_lastore, st_bastoreB, st_bastoreZ, st_aastore, st_iret, st_zret, st_cret, st_bret, st_return_, st_areturn, st_invV, st_invVS, st_invS, st_invI, st_min, st_max, st_obj, st_new, st_newarray, st_anewarray, st_multianewarray, st_table, st_lookup, pI_c, pL_c, pR_c, p1_i, p1_r, p1_n, iI_0, iI_s, iL_0, iL_s, iR_0, iR_s, rfV_s, kc_c, kl_c, cats_0, cats_i, cats_l, cats_r, rcv_c, rcvS_c, isRefA_c, cl_0, cl_1, cl_2, cl_3, cl_4, cl_5, cl_6, cl_7, set1_0, set1_1i, set1_1r, set1_1n, set1_s, set2_s, set2_1i, set2_1r, set2_1n, toL_s, toL_n, cnd, and_self, true_and, and_true, true_or, or_true, List.contains_nil, List.contains_cons, Bool.or_false, beq_iff_eq, Nat.reduceBEq, Nat.reduceEqDiff, Nat.reduceAdd, Nat.reduceLeDiff, Nat.reduceSub, Bool.false_eq_true, if_false, if_true, Nat.zero_le, Nat.add_zero, Nat.zero_add, Nat.le_refl, gN_sI, gN_sL, gN_sR, gR_sI, gR_sL, gR_sR, s0, s1, s2, s3, s4, s5, s6, hb0, hb1, hb2, hb3, hb4, hb5, hb6, r0, r1, r2, r5, r6, r7, gR_wrC, gN_wrC, gI_wrC_t, gI_wrC_l, hw2, hw6, hw9, hc, hd0]
  suffices hh : ∀ (j k : Nat), k + j = c → ∀ v : Value, X d q_X1_giveAll (gN σ) 0 0 Rt 2 0 0 [.ref f, .int (nI k), v] [] (wrC σ f (passL gr (fun u o => gI σ (f + 2) o - u.1 o) k s).1 (passL gr (fun u o => gI σ (f + 2) o - u.1 o) k s).2) from hh c 0 (by omega) _
  intro j
  induction j with
  | zero =>
    intro k hk v
    obtain rfl : k = c := by omega
    refine X_wp [2] ck_X1_giveAll 28 ?_
    simp (decide := true) only [wp_s e_X1_giveAll_0, wp_s e_X1_giveAll_1, wp_s e_X1_giveAll_2, wp_s e_X1_giveAll_3, wp_s e_X1_giveAll_4, wp_s e_X1_giveAll_7, wp_s e_X1_giveAll_10, wp_s e_X1_giveAll_11, wp_s e_X1_giveAll_14, wp_s e_X1_giveAll_15, wp_s e_X1_giveAll_16, wp_s e_X1_giveAll_17, wp_s e_X1_giveAll_18, wp_s e_X1_giveAll_19, wp_s e_X1_giveAll_20, wp_s e_X1_giveAll_23, wp_s e_X1_giveAll_24, wp_s e_X1_giveAll_25, wp_s e_X1_giveAll_26, wp_s e_X1_giveAll_29, wp_s e_X1_giveAll_30, wp_s e_X1_giveAll_31, wp_s e_X1_giveAll_32, wp_s e_X1_giveAll_35, wp_s e_X1_giveAll_38, wp_s e_X1_giveAll_41, st_iadd, st_isub, st_imul, st_iand, st_ior, st_ishl, st_ishr, st_idiv, st_irem, st_ladd, st_lsub, st_lmul, st_lor, st_land, st_ldiv, st_lshl, st_lcmp, st_i2l, st_i2b, st_l2i, st_i2c, st_iconst, st_bipush, st_sipush, st_lconst, st_ldc2_w, st_ldc_w, st_ldcI, st_ldcS, st_iload, st_iload_n, st_lload, st_lload_n, st_aload, st_aload_n, st_istore, st_istore_n, st_lstore, st_lstore_n, st_astore, st_astore_n, st_iinc, st_dup, st_pop, st_dup2, st_ifCond, st_if_icmp, st_goto, st_getI, st_getL, st_getR, st_putI, st_putL, st_putR, st_putZ, st_sval, st_scod, st_baload, st_baloadS, st_alen, st_alenS, st_gets1, st_getsF, st_iaload, st_laload, st_aaload, st_iastore, st_lastore, st_bastoreB, st_bastoreZ, st_aastore, st_iret, st_zret, st_cret, st_bret, st_return_, st_areturn, st_invV, st_invVS, st_invS, st_invI, st_min, st_max, st_obj, st_new, st_newarray, st_anewarray, st_multianewarray, st_table, st_lookup, pI_c, pL_c, pR_c, p1_i, p1_r, p1_n, iI_0, iI_s, iL_0, iL_s, iR_0, iR_s, rfV_s, kc_c, kl_c, cats_0, cats_i, cats_l, cats_r, rcv_c, rcvS_c, isRefA_c, cl_0, cl_1, cl_2, cl_3, cl_4, cl_5, cl_6, cl_7, set1_0, set1_1i, set1_1r, set1_1n, set1_s, set2_s, set2_1i, set2_1r, set2_1n, toL_s, toL_n, cnd, and_self, true_and, and_true, true_or, or_true, List.contains_nil, List.contains_cons, Bool.or_false, beq_iff_eq, Nat.reduceBEq, Nat.reduceEqDiff, Nat.reduceAdd, Nat.reduceLeDiff, Nat.reduceSub, Bool.false_eq_true, if_false, if_true, Nat.zero_le, Nat.add_zero, Nat.zero_add, Nat.le_refl, gN_sI, gN_sL, gN_sR, gR_sI, gR_sL, gR_sR, s0, s1, s2, s3, s4, s5, s6, hb0, hb1, hb2, hb3, hb4, hb5, hb6, r0, r1, r2, r5, r6, r7, gR_wrC, gN_wrC, gI_wrC_t, gI_wrC_l, hw2, hw6, hw9, hc, hd0]
    exact ⟨fun _ => h, fun c => absurd (nI_le (Nat.le_refl k) (by omega)) c⟩
  | succ j ih =>
    intro k hk v
    obtain ⟨hg1, hg2⟩ := hg k (by omega)
    have hcl : (nI k).toNatClampNeg = k := nI_clamp (by omega)
    have hv6 : vp_in (nI k) 6 := vp_in_nI (by omega) (by omega)
    have hcg : (nI (gr k)).toNatClampNeg = gr k := nI_clamp (by omega)
    have hvg : vp_in (nI (gr k)) 6 := vp_in_nI (by omega) (by omega)
    have ih1 := ih (k + 1) (by omega)
    rw [passL, gv] at ih1
    generalize passL gr (fun u o => gI σ (f + 2) o - u.1 o) k s = u at ih1 ⊢
    refine X_wp [2] ck_X1_giveAll 28 ?_
    simp (decide := true) only [wp_s e_X1_giveAll_0, wp_s e_X1_giveAll_1, wp_s e_X1_giveAll_2, wp_s e_X1_giveAll_3, wp_s e_X1_giveAll_4, wp_s e_X1_giveAll_7, wp_s e_X1_giveAll_10, wp_s e_X1_giveAll_11, wp_s e_X1_giveAll_14, wp_s e_X1_giveAll_15, wp_s e_X1_giveAll_16, wp_s e_X1_giveAll_17, wp_s e_X1_giveAll_18, wp_s e_X1_giveAll_19, wp_s e_X1_giveAll_20, wp_s e_X1_giveAll_23, wp_s e_X1_giveAll_24, wp_s e_X1_giveAll_25, wp_s e_X1_giveAll_26, wp_s e_X1_giveAll_29, wp_s e_X1_giveAll_30, wp_s e_X1_giveAll_31, wp_s e_X1_giveAll_32, wp_s e_X1_giveAll_35, wp_s e_X1_giveAll_38, wp_s e_X1_giveAll_41, st_iadd, st_isub, st_imul, st_iand, st_ior, st_ishl, st_ishr, st_idiv, st_irem, st_ladd, st_lsub, st_lmul, st_lor, st_land, st_ldiv, st_lshl, st_lcmp, st_i2l, st_i2b, st_l2i, st_i2c, st_iconst, st_bipush, st_sipush, st_lconst, st_ldc2_w, st_ldc_w, st_ldcI, st_ldcS, st_iload, st_iload_n, st_lload, st_lload_n, st_aload, st_aload_n, st_istore, st_istore_n, st_lstore, st_lstore_n, st_astore, st_astore_n, st_iinc, st_dup, st_pop, st_dup2, st_ifCond, st_if_icmp, st_goto, st_getI, st_getL, st_getR, st_putI, st_putL, st_putR, st_putZ, st_sval, st_scod, st_baload, st_baloadS, st_alen, st_alenS, st_gets1, st_getsF, st_iaload, st_laload, st_aaload, st_iastore, st_lastore, st_bastoreB, st_bastoreZ, st_aastore, st_iret, st_zret, st_cret, st_bret, st_return_, st_areturn, st_invV, st_invVS, st_invS, st_invI, st_min, st_max, st_obj, st_new, st_newarray, st_anewarray, st_multianewarray, st_table, st_lookup, pI_c, pL_c, pR_c, p1_i, p1_r, p1_n, iI_0, iI_s, iL_0, iL_s, iR_0, iR_s, rfV_s, kc_c, kl_c, cats_0, cats_i, cats_l, cats_r, rcv_c, rcvS_c, isRefA_c, cl_0, cl_1, cl_2, cl_3, cl_4, cl_5, cl_6, cl_7, set1_0, set1_1i, set1_1r, set1_1n, set1_s, set2_s, set2_1i, set2_1r, set2_1n, toL_s, toL_n, cnd, and_self, true_and, and_true, true_or, or_true, List.contains_nil, List.contains_cons, Bool.or_false, beq_iff_eq, Nat.reduceBEq, Nat.reduceEqDiff, Nat.reduceAdd, Nat.reduceLeDiff, Nat.reduceSub, Bool.false_eq_true, if_false, if_true, Nat.zero_le, Nat.add_zero, Nat.zero_add, Nat.le_refl, gN_sI, gN_sL, gN_sR, gR_sI, gR_sL, gR_sR, s0, s1, s2, s3, s4, s5, s6, hb0, hb1, hb2, hb3, hb4, hb5, hb6, r0, r1, r2, r5, r6, r7, gR_wrC, gN_wrC, gI_wrC_t, gI_wrC_l, hw2, hw6, hw9, hc, hd0, hcl, hv6, hg2, hcg, hvg, nI_1]
    refine ⟨fun c => absurd c (nI_ge (by omega) (by omega)), fun _ => ?_⟩
    refine C_X1_give hF0 hg1 ?_
    (simp (decide := true) only [st_iadd, st_isub, st_imul, st_iand, st_ior, st_ishl, st_ishr, st_idiv, st_irem, st_ladd, st_lsub, st_lmul, st_lor, st_land, st_ldiv, st_lshl, st_lcmp, st_i2l, st_i2b, st_l2i, st_i2c, st_iconst, st_bipush, st_sipush, st_lconst, st_ldc2_w, st_ldc_w, st_ldcI, st_ldcS, st_iload, st_iload_n, st_lload, st_lload_n, st_aload, st_aload_n, st_istore, st_istore_n, st_lstore, st_lstore_n, st_astore, st_astore_n, st_iinc, st_dup, st_pop, st_dup2, st_ifCond, st_if_icmp, st_goto, st_getI, st_getL, st_getR, st_putI, st_putL, st_putR, st_putZ, st_sval, st_scod, st_baload, st_baloadS, st_alen, st_alenS, st_gets1, st_getsF, st_iaload, st_laload, st_aaload, st_iastore, st_lastore, st_bastoreB, st_bastoreZ, st_aastore, st_iret, st_zret, st_cret, st_bret, st_return_, st_areturn, st_invV, st_invVS, st_invS, st_invI, st_min, st_max, st_obj, st_new, st_newarray, st_anewarray, st_multianewarray, st_table, st_lookup, pI_c, pL_c, pR_c, p1_i, p1_r, p1_n, iI_0, iI_s, iL_0, iL_s, iR_0, iR_s, rfV_s, kc_c, kl_c, cats_0, cats_i, cats_l, cats_r, rcv_c, rcvS_c, isRefA_c, cl_0, cl_1, cl_2, cl_3, cl_4, cl_5, cl_6, cl_7, set1_0, set1_1i, set1_1r, set1_1n, set1_s, set2_s, set2_1i, set2_1r, set2_1n, toL_s, toL_n, cnd, and_self, true_and, and_true, true_or, or_true, List.contains_nil, List.contains_cons, Bool.or_false, beq_iff_eq, Nat.reduceBEq, Nat.reduceEqDiff, Nat.reduceAdd, Nat.reduceLeDiff, Nat.reduceSub, Bool.false_eq_true, if_false, if_true, Nat.zero_le, Nat.add_zero, Nat.zero_add, Nat.le_refl, gN_sI, gN_sL, gN_sR, gR_sI, gR_sL, gR_sR, s0, s1, s2, s3, s4, s5, s6, hb0, hb1, hb2, hb3, hb4, hb5, hb6, r0, r1, r2, r5, r6, r7, gR_wrC, gN_wrC, gI_wrC_t, gI_wrC_l, hw2, hw6, hw9, hc, hd0, hcl, hv6, hg2, hcg, hvg, nI_1]; try simp (decide := true) only [cats_0, cats_i, cats_r, cats_l, bI_0, bI_1, bI_01, true_and, and_true, and_self, Nat.zero_le, Nat.reduceAdd, Nat.reduceLeDiff])
    exact ih1 _
set_option maxRecDepth 10000 in
theorem C_X1_giveByParts {pl wd : Int32} (hd : 1 ≤ d) (hF : FigAt σ f) (hc6 : c ≤ 6) (hc : gI σ f 9 = nI c) (hg : ∀ k, k < c → gr k < 6 ∧ gI σ (f + 6) k = nI (gr k)) (hwd : 0 < wd) (h : Rt none (wrC σ f (passL gr (fun u o => (pl.toInt64 * (gI σ (f + 2) o - u.1 o).toInt64 / wd.toInt64).toInt32) c s).1 (passL gr (fun u o => (pl.toInt64 * (gI σ (f + 2) o - u.1 o).toInt64 / wd.toInt64).toInt32) c s).2)) : Con d q_X1_giveByParts 0 0 [.ref f, .int pl, .int wd] (wrC σ f s.1 s.2) Rt := by
  have hF0 := hF
  obtain ⟨hN, hf, r0, r1, r2, r5, r6, r7⟩ := hF
  obtain ⟨s0, s1, s2, s3, s4, s5, s6⟩ := fsh f hf
  have hb0 : f < gN σ := by omega
  have hb1 : f + 1 < gN σ := by omega
  have hb2 : f + 2 < gN σ := by omega
  have hb3 : f + 3 < gN σ := by omega
  have hb4 : f + 4 < gN σ := by omega
  have hb5 : f + 5 < gN σ := by omega
  have hb6 : f + 6 < gN σ := by omega
  have hw2 : ∀ (G : Nat → Int32) (L : Int32), gI (wrC σ f G L) (f + 2) = gI σ (f + 2) := fun G L => gI_wrC_o (by omega)
  have hw6 : ∀ (G : Nat → Int32) (L : Int32), gI (wrC σ f G L) (f + 6) = gI σ (f + 6) := fun G L => gI_wrC_o (by omega)
  have hw9 : ∀ (G : Nat → Int32) (L : Int32), gI (wrC σ f G L) f 9 = gI σ f 9 := fun G L => gI_wrC_f (by decide)
  have hd0 : 0 < d := by omega
  refine Con_of_X (ls := [.ref f, .int pl, .int wd, .null, .null]) rfl (Nat.le_of_ble_eq_true rfl) rfl ?_
  refine X_wp [2] ck_X1_giveByParts 38 ?_
  simp (decide := true) only [wp_s e_X1_giveByParts_0, wp_s e_X1_giveByParts_1, wp_s e_X1_giveByParts_2, wp_s e_X1_giveByParts_3, wp_s e_X1_giveByParts_4, wp_s e_X1_giveByParts_7, wp_s e_X1_giveByParts_10, wp_s e_X1_giveByParts_11, wp_s e_X1_giveByParts_14, wp_s e_X1_giveByParts_15, wp_s e_X1_giveByParts_18, wp_s e_X1_giveByParts_19, wp_s e_X1_giveByParts_20, wp_s e_X1_giveByParts_22, wp_s e_X1_giveByParts_23, wp_s e_X1_giveByParts_25, wp_s e_X1_giveByParts_26, wp_s e_X1_giveByParts_27, wp_s e_X1_giveByParts_28, wp_s e_X1_giveByParts_31, wp_s e_X1_giveByParts_33, wp_s e_X1_giveByParts_34, wp_s e_X1_giveByParts_35, wp_s e_X1_giveByParts_38, wp_s e_X1_giveByParts_40, wp_s e_X1_giveByParts_41, wp_s e_X1_giveByParts_42, wp_s e_X1_giveByParts_43, wp_s e_X1_giveByParts_44, wp_s e_X1_giveByParts_45, wp_s e_X1_giveByParts_46, wp_s e_X1_giveByParts_47, wp_s e_X1_giveByParts_48, wp_s e_X1_giveByParts_51, wp_s e_X1_giveByParts_54, wp_s e_X1_giveByParts_57, st_iadd, st_isub, st_imul, st_iand, st_ior, st_ishl, st_ishr, st_idiv, st_irem, st_ladd, st_lsub, st_lmul, st_lor, st_land, st_ldiv, st_lshl, st_lcmp, st_i2l, st_i2b, st_l2i, st_i2c, st_iconst, st_bipush, st_sipush, st_lconst, st_ldc2_w, st_ldc_w, st_ldcI, st_ldcS, st_iload, st_iload_n, st_lload, st_lload_n, st_aload, st_aload_n, st_istore, st_istore_n, st_lstore, st_lstore_n, st_astore, st_astore_n, st_iinc, st_dup, st_pop, st_dup2, st_ifCond, st_if_icmp, st_goto, st_getI, st_getL, st_getR, st_putI, st_putL, st_putR, st_putZ, st_sval, st_scod, st_baload, st_baloadS, st_alen, st_alenS, st_gets1, st_getsF, st_iaload, st_laload, st_aaload, st_iastore, st_lastore, st_bastoreB, st_bastoreZ, st_aastore, st_iret, st_zret, st_cret, st_bret, st_return_, st_areturn, st_invV, st_invVS, st_invS, st_invI, st_min, st_max, st_obj, st_new, st_newarray, st_anewarray, st_multianewarray, st_table, st_lookup, pI_c, pL_c, pR_c, p1_i, p1_r, p1_n, iI_0, iI_s, iL_0, iL_s, iR_0, iR_s, rfV_s, kc_c, kl_c, cats_0, cats_i, cats_l, cats_r, rcv_c, rcvS_c, isRefA_c, cl_0, cl_1, cl_2, cl_3, cl_4, cl_5, cl_6, cl_7, set1_0, set1_1i, set1_1r, set1_1n, set1_s, set2_s, set2_1i, set2_1r, set2_1n, toL_s, toL_n, cnd, and_self, true_and, and_true, true_or, or_true, List.contains_nil, List.contains_cons, Bool.or_false, beq_iff_eq, Nat.reduceBEq, Nat.reduceEqDiff, Nat.reduceAdd, Nat.reduceLeDiff, Nat.reduceSub, Bool.false_eq_true, if_false, if_true, Nat.zero_le, Nat.add_zero, Nat.zero_add, Nat.le_refl, gN_sI, gN_sL, gN_sR, gR_sI, gR_sL, gR_sR, s0, s1, s2, s3, s4, s5, s6, hb0, hb1, hb2, hb3, hb4, hb5, hb6, r0, r1, r2, r5, r6, r7, gR_wrC, gN_wrC, gI_wrC_t, gI_wrC_l, hw2, hw6, hw9, hc, hd0]
  suffices hh : ∀ (j k : Nat), k + j = c → ∀ v : Value, X d q_X1_giveByParts (gN σ) 0 0 Rt 2 0 0 [.ref f, .int pl, .int wd, .int (nI k), v] [] (wrC σ f (passL gr (fun u o => (pl.toInt64 * (gI σ (f + 2) o - u.1 o).toInt64 / wd.toInt64).toInt32) k s).1 (passL gr (fun u o => (pl.toInt64 * (gI σ (f + 2) o - u.1 o).toInt64 / wd.toInt64).toInt32) k s).2) from hh c 0 (by omega) _
  intro j
  induction j with
  | zero =>
    intro k hk v
    obtain rfl : k = c := by omega
    refine X_wp [2] ck_X1_giveByParts 38 ?_
    simp (decide := true) only [wp_s e_X1_giveByParts_0, wp_s e_X1_giveByParts_1, wp_s e_X1_giveByParts_2, wp_s e_X1_giveByParts_3, wp_s e_X1_giveByParts_4, wp_s e_X1_giveByParts_7, wp_s e_X1_giveByParts_10, wp_s e_X1_giveByParts_11, wp_s e_X1_giveByParts_14, wp_s e_X1_giveByParts_15, wp_s e_X1_giveByParts_18, wp_s e_X1_giveByParts_19, wp_s e_X1_giveByParts_20, wp_s e_X1_giveByParts_22, wp_s e_X1_giveByParts_23, wp_s e_X1_giveByParts_25, wp_s e_X1_giveByParts_26, wp_s e_X1_giveByParts_27, wp_s e_X1_giveByParts_28, wp_s e_X1_giveByParts_31, wp_s e_X1_giveByParts_33, wp_s e_X1_giveByParts_34, wp_s e_X1_giveByParts_35, wp_s e_X1_giveByParts_38, wp_s e_X1_giveByParts_40, wp_s e_X1_giveByParts_41, wp_s e_X1_giveByParts_42, wp_s e_X1_giveByParts_43, wp_s e_X1_giveByParts_44, wp_s e_X1_giveByParts_45, wp_s e_X1_giveByParts_46, wp_s e_X1_giveByParts_47, wp_s e_X1_giveByParts_48, wp_s e_X1_giveByParts_51, wp_s e_X1_giveByParts_54, wp_s e_X1_giveByParts_57, st_iadd, st_isub, st_imul, st_iand, st_ior, st_ishl, st_ishr, st_idiv, st_irem, st_ladd, st_lsub, st_lmul, st_lor, st_land, st_ldiv, st_lshl, st_lcmp, st_i2l, st_i2b, st_l2i, st_i2c, st_iconst, st_bipush, st_sipush, st_lconst, st_ldc2_w, st_ldc_w, st_ldcI, st_ldcS, st_iload, st_iload_n, st_lload, st_lload_n, st_aload, st_aload_n, st_istore, st_istore_n, st_lstore, st_lstore_n, st_astore, st_astore_n, st_iinc, st_dup, st_pop, st_dup2, st_ifCond, st_if_icmp, st_goto, st_getI, st_getL, st_getR, st_putI, st_putL, st_putR, st_putZ, st_sval, st_scod, st_baload, st_baloadS, st_alen, st_alenS, st_gets1, st_getsF, st_iaload, st_laload, st_aaload, st_iastore, st_lastore, st_bastoreB, st_bastoreZ, st_aastore, st_iret, st_zret, st_cret, st_bret, st_return_, st_areturn, st_invV, st_invVS, st_invS, st_invI, st_min, st_max, st_obj, st_new, st_newarray, st_anewarray, st_multianewarray, st_table, st_lookup, pI_c, pL_c, pR_c, p1_i, p1_r, p1_n, iI_0, iI_s, iL_0, iL_s, iR_0, iR_s, rfV_s, kc_c, kl_c, cats_0, cats_i, cats_l, cats_r, rcv_c, rcvS_c, isRefA_c, cl_0, cl_1, cl_2, cl_3, cl_4, cl_5, cl_6, cl_7, set1_0, set1_1i, set1_1r, set1_1n, set1_s, set2_s, set2_1i, set2_1r, set2_1n, toL_s, toL_n, cnd, and_self, true_and, and_true, true_or, or_true, List.contains_nil, List.contains_cons, Bool.or_false, beq_iff_eq, Nat.reduceBEq, Nat.reduceEqDiff, Nat.reduceAdd, Nat.reduceLeDiff, Nat.reduceSub, Bool.false_eq_true, if_false, if_true, Nat.zero_le, Nat.add_zero, Nat.zero_add, Nat.le_refl, gN_sI, gN_sL, gN_sR, gR_sI, gR_sL, gR_sR, s0, s1, s2, s3, s4, s5, s6, hb0, hb1, hb2, hb3, hb4, hb5, hb6, r0, r1, r2, r5, r6, r7, gR_wrC, gN_wrC, gI_wrC_t, gI_wrC_l, hw2, hw6, hw9, hc, hd0]
    exact ⟨fun _ => h, fun c => absurd (nI_le (Nat.le_refl k) (by omega)) c⟩
  | succ j ih =>
    intro k hk v
    obtain ⟨hg1, hg2⟩ := hg k (by omega)
    have hcl : (nI k).toNatClampNeg = k := nI_clamp (by omega)
    have hv6 : vp_in (nI k) 6 := vp_in_nI (by omega) (by omega)
    have hcg : (nI (gr k)).toNatClampNeg = gr k := nI_clamp (by omega)
    have hvg : vp_in (nI (gr k)) 6 := vp_in_nI (by omega) (by omega)
    have ih1 := ih (k + 1) (by omega)
    rw [passL, gv] at ih1
    generalize passL gr (fun u o => (pl.toInt64 * (gI σ (f + 2) o - u.1 o).toInt64 / wd.toInt64).toInt32) k s = u at ih1 ⊢
    refine X_wp [2] ck_X1_giveByParts 38 ?_
    simp (decide := true) only [wp_s e_X1_giveByParts_0, wp_s e_X1_giveByParts_1, wp_s e_X1_giveByParts_2, wp_s e_X1_giveByParts_3, wp_s e_X1_giveByParts_4, wp_s e_X1_giveByParts_7, wp_s e_X1_giveByParts_10, wp_s e_X1_giveByParts_11, wp_s e_X1_giveByParts_14, wp_s e_X1_giveByParts_15, wp_s e_X1_giveByParts_18, wp_s e_X1_giveByParts_19, wp_s e_X1_giveByParts_20, wp_s e_X1_giveByParts_22, wp_s e_X1_giveByParts_23, wp_s e_X1_giveByParts_25, wp_s e_X1_giveByParts_26, wp_s e_X1_giveByParts_27, wp_s e_X1_giveByParts_28, wp_s e_X1_giveByParts_31, wp_s e_X1_giveByParts_33, wp_s e_X1_giveByParts_34, wp_s e_X1_giveByParts_35, wp_s e_X1_giveByParts_38, wp_s e_X1_giveByParts_40, wp_s e_X1_giveByParts_41, wp_s e_X1_giveByParts_42, wp_s e_X1_giveByParts_43, wp_s e_X1_giveByParts_44, wp_s e_X1_giveByParts_45, wp_s e_X1_giveByParts_46, wp_s e_X1_giveByParts_47, wp_s e_X1_giveByParts_48, wp_s e_X1_giveByParts_51, wp_s e_X1_giveByParts_54, wp_s e_X1_giveByParts_57, st_iadd, st_isub, st_imul, st_iand, st_ior, st_ishl, st_ishr, st_idiv, st_irem, st_ladd, st_lsub, st_lmul, st_lor, st_land, st_ldiv, st_lshl, st_lcmp, st_i2l, st_i2b, st_l2i, st_i2c, st_iconst, st_bipush, st_sipush, st_lconst, st_ldc2_w, st_ldc_w, st_ldcI, st_ldcS, st_iload, st_iload_n, st_lload, st_lload_n, st_aload, st_aload_n, st_istore, st_istore_n, st_lstore, st_lstore_n, st_astore, st_astore_n, st_iinc, st_dup, st_pop, st_dup2, st_ifCond, st_if_icmp, st_goto, st_getI, st_getL, st_getR, st_putI, st_putL, st_putR, st_putZ, st_sval, st_scod, st_baload, st_baloadS, st_alen, st_alenS, st_gets1, st_getsF, st_iaload, st_laload, st_aaload, st_iastore, st_lastore, st_bastoreB, st_bastoreZ, st_aastore, st_iret, st_zret, st_cret, st_bret, st_return_, st_areturn, st_invV, st_invVS, st_invS, st_invI, st_min, st_max, st_obj, st_new, st_newarray, st_anewarray, st_multianewarray, st_table, st_lookup, pI_c, pL_c, pR_c, p1_i, p1_r, p1_n, iI_0, iI_s, iL_0, iL_s, iR_0, iR_s, rfV_s, kc_c, kl_c, cats_0, cats_i, cats_l, cats_r, rcv_c, rcvS_c, isRefA_c, cl_0, cl_1, cl_2, cl_3, cl_4, cl_5, cl_6, cl_7, set1_0, set1_1i, set1_1r, set1_1n, set1_s, set2_s, set2_1i, set2_1r, set2_1n, toL_s, toL_n, cnd, and_self, true_and, and_true, true_or, or_true, List.contains_nil, List.contains_cons, Bool.or_false, beq_iff_eq, Nat.reduceBEq, Nat.reduceEqDiff, Nat.reduceAdd, Nat.reduceLeDiff, Nat.reduceSub, Bool.false_eq_true, if_false, if_true, Nat.zero_le, Nat.add_zero, Nat.zero_add, Nat.le_refl, gN_sI, gN_sL, gN_sR, gR_sI, gR_sL, gR_sR, s0, s1, s2, s3, s4, s5, s6, hb0, hb1, hb2, hb3, hb4, hb5, hb6, r0, r1, r2, r5, r6, r7, gR_wrC, gN_wrC, gI_wrC_t, gI_wrC_l, hw2, hw6, hw9, hc, hd0, hcl, hv6, hg2, hcg, hvg, nI_1]
    refine ⟨fun c => absurd c (nI_ge (by omega) (by omega)), fun _ => ?_⟩
    refine ⟨fun c => absurd hwd (Int32.not_lt.mpr c), fun _ => ⟨i2l_ne0 (fun z => by rw [z] at hwd; exact absurd hwd (by decide)), ?_⟩⟩
    refine C_X1_give hF0 hg1 ?_
    (simp (decide := true) only [st_iadd, st_isub, st_imul, st_iand, st_ior, st_ishl, st_ishr, st_idiv, st_irem, st_ladd, st_lsub, st_lmul, st_lor, st_land, st_ldiv, st_lshl, st_lcmp, st_i2l, st_i2b, st_l2i, st_i2c, st_iconst, st_bipush, st_sipush, st_lconst, st_ldc2_w, st_ldc_w, st_ldcI, st_ldcS, st_iload, st_iload_n, st_lload, st_lload_n, st_aload, st_aload_n, st_istore, st_istore_n, st_lstore, st_lstore_n, st_astore, st_astore_n, st_iinc, st_dup, st_pop, st_dup2, st_ifCond, st_if_icmp, st_goto, st_getI, st_getL, st_getR, st_putI, st_putL, st_putR, st_putZ, st_sval, st_scod, st_baload, st_baloadS, st_alen, st_alenS, st_gets1, st_getsF, st_iaload, st_laload, st_aaload, st_iastore, st_lastore, st_bastoreB, st_bastoreZ, st_aastore, st_iret, st_zret, st_cret, st_bret, st_return_, st_areturn, st_invV, st_invVS, st_invS, st_invI, st_min, st_max, st_obj, st_new, st_newarray, st_anewarray, st_multianewarray, st_table, st_lookup, pI_c, pL_c, pR_c, p1_i, p1_r, p1_n, iI_0, iI_s, iL_0, iL_s, iR_0, iR_s, rfV_s, kc_c, kl_c, cats_0, cats_i, cats_l, cats_r, rcv_c, rcvS_c, isRefA_c, cl_0, cl_1, cl_2, cl_3, cl_4, cl_5, cl_6, cl_7, set1_0, set1_1i, set1_1r, set1_1n, set1_s, set2_s, set2_1i, set2_1r, set2_1n, toL_s, toL_n, cnd, and_self, true_and, and_true, true_or, or_true, List.contains_nil, List.contains_cons, Bool.or_false, beq_iff_eq, Nat.reduceBEq, Nat.reduceEqDiff, Nat.reduceAdd, Nat.reduceLeDiff, Nat.reduceSub, Bool.false_eq_true, if_false, if_true, Nat.zero_le, Nat.add_zero, Nat.zero_add, Nat.le_refl, gN_sI, gN_sL, gN_sR, gR_sI, gR_sL, gR_sR, s0, s1, s2, s3, s4, s5, s6, hb0, hb1, hb2, hb3, hb4, hb5, hb6, r0, r1, r2, r5, r6, r7, gR_wrC, gN_wrC, gI_wrC_t, gI_wrC_l, hw2, hw6, hw9, hc, hd0, hcl, hv6, hg2, hcg, hvg, nI_1]; try simp (decide := true) only [cats_0, cats_i, cats_r, cats_l, bI_0, bI_1, bI_01, true_and, and_true, and_self, Nat.zero_le, Nat.reduceAdd, Nat.reduceLeDiff])
    exact ih1 _
/-- 1 each to those of the group that want yet, as far as the coins go -/
def onL (gr : Nat → Nat) (W : Nat → Int32) : Nat → ((Nat → Int32) × Int32) × Int32 → ((Nat → Int32) × Int32) × Int32
  | 0, x => x
  | c + 1, x => if 0 < (onL gr W c x).2 ∧ (onL gr W c x).1.1 (gr c) < W (gr c) then (gv (onL gr W c x).1 (gr c) 1, (onL gr W c x).2 + (-1)) else onL gr W c x
theorem onL_stop {W : Nat → Int32} {x : ((Nat → Int32) × Int32) × Int32} {k : Nat} (h : (onL gr W k x).2 ≤ 0) : ∀ j, onL gr W (k + j) x = onL gr W k x
  | 0 => rfl
  | j + 1 => by
    show (if 0 < (onL gr W (k + j) x).2 ∧ (onL gr W (k + j) x).1.1 (gr (k + j)) < W (gr (k + j)) then _ else onL gr W (k + j) x) = _
    rw [onL_stop h j, if_neg (fun z => absurd z.1 (Int32.not_lt.mpr h))]
/-- the greatest own floor below one of the first k members that want; -1 -/
def gfF (gm : Nat → Nat) (O W : Nat → Int32) (above : Int32) : Nat → Int32
  | 0 => -1
  | k + 1 => if 0 < W (gm k) ∧ O (gm k) < above then maxI (gfF gm O W above k) (O (gm k)) else gfF gm O W above k
set_option maxRecDepth 10000 in
theorem C_X1_giveOneEach {x : Int32} (hd : 1 ≤ d) (hF : FigAt σ f) (hc6 : c ≤ 6) (hc : gI σ f 9 = nI c) (hg : ∀ k, k < c → gr k < 6 ∧ gI σ (f + 6) k = nI (gr k)) (h : Rt none (wrC σ f (onL gr (gI σ (f + 2)) c (s, x)).1.1 (onL gr (gI σ (f + 2)) c (s, x)).1.2)) : Con d q_X1_giveOneEach 0 0 [.ref f, .int x] (wrC σ f s.1 s.2) Rt := by
  have hF0 := hF
  obtain ⟨hN, hf, r0, r1, r2, r5, r6, r7⟩ := hF
  obtain ⟨s0, s1, s2, s3, s4, s5, s6⟩ := fsh f hf
  have hb0 : f < gN σ := by omega
  have hb1 : f + 1 < gN σ := by omega
  have hb2 : f + 2 < gN σ := by omega
  have hb3 : f + 3 < gN σ := by omega
  have hb4 : f + 4 < gN σ := by omega
  have hb5 : f + 5 < gN σ := by omega
  have hb6 : f + 6 < gN σ := by omega
  have hw2 : ∀ (G : Nat → Int32) (L : Int32), gI (wrC σ f G L) (f + 2) = gI σ (f + 2) := fun G L => gI_wrC_o (by omega)
  have hw6 : ∀ (G : Nat → Int32) (L : Int32), gI (wrC σ f G L) (f + 6) = gI σ (f + 6) := fun G L => gI_wrC_o (by omega)
  have hw9 : ∀ (G : Nat → Int32) (L : Int32), gI (wrC σ f G L) f 9 = gI σ f 9 := fun G L => gI_wrC_f (by decide)
  have hd0 : 0 < d := by omega
  refine Con_of_X (ls := [.ref f, .int x, .null, .null, .null]) rfl (Nat.le_of_ble_eq_true rfl) rfl ?_
  refine X_wp [4] ck_X1_giveOneEach 34 ?_
  simp (decide := true) only [wp_s e_X1_giveOneEach_0, wp_s e_X1_giveOneEach_1, wp_s e_X1_giveOneEach_2, wp_s e_X1_giveOneEach_3, wp_s e_X1_giveOneEach_4, wp_s e_X1_giveOneEach_5, wp_s e_X1_giveOneEach_6, wp_s e_X1_giveOneEach_9, wp_s e_X1_giveOneEach_12, wp_s e_X1_giveOneEach_13, wp_s e_X1_giveOneEach_16, wp_s e_X1_giveOneEach_17, wp_s e_X1_giveOneEach_20, wp_s e_X1_giveOneEach_21, wp_s e_X1_giveOneEach_22, wp_s e_X1_giveOneEach_24, wp_s e_X1_giveOneEach_25, wp_s e_X1_giveOneEach_28, wp_s e_X1_giveOneEach_30, wp_s e_X1_giveOneEach_31, wp_s e_X1_giveOneEach_32, wp_s e_X1_giveOneEach_35, wp_s e_X1_giveOneEach_37, wp_s e_X1_giveOneEach_38, wp_s e_X1_giveOneEach_41, wp_s e_X1_giveOneEach_42, wp_s e_X1_giveOneEach_44, wp_s e_X1_giveOneEach_45, wp_s e_X1_giveOneEach_48, wp_s e_X1_giveOneEach_51, wp_s e_X1_giveOneEach_54, wp_s e_X1_giveOneEach_57, st_iadd, st_isub, st_imul, st_iand, st_ior, st_ishl, st_ishr, st_idiv, st_irem, st_ladd, st_lsub, st_lmul, st_lor, st_land, st_ldiv, st_lshl, st_lcmp, st_i2l, st_i2b, st_l2i, st_i2c, st_iconst, st_bipush, st_sipush, st_lconst, st_ldc2_w, st_ldc_w, st_ldcI, st_ldcS, st_iload, st_iload_n, st_lload, st_lload_n, st_aload, st_aload_n, st_istore, st_istore_n, st_lstore, st_lstore_n, st_astore, st_astore_n, st_iinc, st_dup, st_pop, st_dup2, st_ifCond, st_if_icmp, st_goto, st_getI, st_getL, st_getR, st_putI, st_putL, st_putR, st_putZ, st_sval, st_scod, st_baload, st_baloadS, st_alen, st_alenS, st_gets1, st_getsF, st_iaload, st_laload, st_aaload, st_iastore, st_lastore, st_bastoreB, st_bastoreZ, st_aastore, st_iret, st_zret, st_cret, st_bret, st_return_, st_areturn, st_invV, st_invVS, st_invS, st_invI, st_min, st_max, st_obj, st_new, st_newarray, st_anewarray, st_multianewarray, st_table, st_lookup, pI_c, pL_c, pR_c, p1_i, p1_r, p1_n, iI_0, iI_s, iL_0, iL_s, iR_0, iR_s, rfV_s, kc_c, kl_c, cats_0, cats_i, cats_l, cats_r, rcv_c, rcvS_c, isRefA_c, cl_0, cl_1, cl_2, cl_3, cl_4, cl_5, cl_6, cl_7, set1_0, set1_1i, set1_1r, set1_1n, set1_s, set2_s, set2_1i, set2_1r, set2_1n, toL_s, toL_n, cnd, and_self, true_and, and_true, true_or, or_true, List.contains_nil, List.contains_cons, Bool.or_false, beq_iff_eq, Nat.reduceBEq, Nat.reduceEqDiff, Nat.reduceAdd, Nat.reduceLeDiff, Nat.reduceSub, Bool.false_eq_true, if_false, if_true, Nat.zero_le, Nat.add_zero, Nat.zero_add, Nat.le_refl, gN_sI, gN_sL, gN_sR, gR_sI, gR_sL, gR_sR, s0, s1, s2, s3, s4, s5, s6, hb0, hb1, hb2, hb3, hb4, hb5, hb6, r0, r1, r2, r5, r6, r7, gR_wrC, gN_wrC, gI_wrC_t, gI_wrC_l, hw2, hw6, hw9, hc, hd0]
  suffices hh : ∀ (j k : Nat), k + j = c → ∀ v : Value, X d q_X1_giveOneEach (gN σ) 0 0 Rt 4 0 0 [.ref f, .int x, .int (onL gr (gI σ (f + 2)) k (s, x)).2, .int (nI k), v] [] (wrC σ f (onL gr (gI σ (f + 2)) k (s, x)).1.1 (onL gr (gI σ (f + 2)) k (s, x)).1.2) from hh c 0 (by omega) _
  intro j
  induction j with
  | zero =>
    intro k hk v
    obtain rfl : k = c := by omega
    refine X_wp [4] ck_X1_giveOneEach 34 ?_
    simp (decide := true) only [wp_s e_X1_giveOneEach_0, wp_s e_X1_giveOneEach_1, wp_s e_X1_giveOneEach_2, wp_s e_X1_giveOneEach_3, wp_s e_X1_giveOneEach_4, wp_s e_X1_giveOneEach_5, wp_s e_X1_giveOneEach_6, wp_s e_X1_giveOneEach_9, wp_s e_X1_giveOneEach_12, wp_s e_X1_giveOneEach_13, wp_s e_X1_giveOneEach_16, wp_s e_X1_giveOneEach_17, wp_s e_X1_giveOneEach_20, wp_s e_X1_giveOneEach_21, wp_s e_X1_giveOneEach_22, wp_s e_X1_giveOneEach_24, wp_s e_X1_giveOneEach_25, wp_s e_X1_giveOneEach_28, wp_s e_X1_giveOneEach_30, wp_s e_X1_giveOneEach_31, wp_s e_X1_giveOneEach_32, wp_s e_X1_giveOneEach_35, wp_s e_X1_giveOneEach_37, wp_s e_X1_giveOneEach_38, wp_s e_X1_giveOneEach_41, wp_s e_X1_giveOneEach_42, wp_s e_X1_giveOneEach_44, wp_s e_X1_giveOneEach_45, wp_s e_X1_giveOneEach_48, wp_s e_X1_giveOneEach_51, wp_s e_X1_giveOneEach_54, wp_s e_X1_giveOneEach_57, st_iadd, st_isub, st_imul, st_iand, st_ior, st_ishl, st_ishr, st_idiv, st_irem, st_ladd, st_lsub, st_lmul, st_lor, st_land, st_ldiv, st_lshl, st_lcmp, st_i2l, st_i2b, st_l2i, st_i2c, st_iconst, st_bipush, st_sipush, st_lconst, st_ldc2_w, st_ldc_w, st_ldcI, st_ldcS, st_iload, st_iload_n, st_lload, st_lload_n, st_aload, st_aload_n, st_istore, st_istore_n, st_lstore, st_lstore_n, st_astore, st_astore_n, st_iinc, st_dup, st_pop, st_dup2, st_ifCond, st_if_icmp, st_goto, st_getI, st_getL, st_getR, st_putI, st_putL, st_putR, st_putZ, st_sval, st_scod, st_baload, st_baloadS, st_alen, st_alenS, st_gets1, st_getsF, st_iaload, st_laload, st_aaload, st_iastore, st_lastore, st_bastoreB, st_bastoreZ, st_aastore, st_iret, st_zret, st_cret, st_bret, st_return_, st_areturn, st_invV, st_invVS, st_invS, st_invI, st_min, st_max, st_obj, st_new, st_newarray, st_anewarray, st_multianewarray, st_table, st_lookup, pI_c, pL_c, pR_c, p1_i, p1_r, p1_n, iI_0, iI_s, iL_0, iL_s, iR_0, iR_s, rfV_s, kc_c, kl_c, cats_0, cats_i, cats_l, cats_r, rcv_c, rcvS_c, isRefA_c, cl_0, cl_1, cl_2, cl_3, cl_4, cl_5, cl_6, cl_7, set1_0, set1_1i, set1_1r, set1_1n, set1_s, set2_s, set2_1i, set2_1r, set2_1n, toL_s, toL_n, cnd, and_self, true_and, and_true, true_or, or_true, List.contains_nil, List.contains_cons, Bool.or_false, beq_iff_eq, Nat.reduceBEq, Nat.reduceEqDiff, Nat.reduceAdd, Nat.reduceLeDiff, Nat.reduceSub, Bool.false_eq_true, if_false, if_true, Nat.zero_le, Nat.add_zero, Nat.zero_add, Nat.le_refl, gN_sI, gN_sL, gN_sR, gR_sI, gR_sL, gR_sR, s0, s1, s2, s3, s4, s5, s6, hb0, hb1, hb2, hb3, hb4, hb5, hb6, r0, r1, r2, r5, r6, r7, gR_wrC, gN_wrC, gI_wrC_t, gI_wrC_l, hw2, hw6, hw9, hc, hd0]
    exact ⟨fun _ => h, fun c => absurd (nI_le (Nat.le_refl k) (by omega)) c⟩
  | succ j ih =>
    intro k hk v
    obtain ⟨hg1, hg2⟩ := hg k (by omega)
    have hcl : (nI k).toNatClampNeg = k := nI_clamp (by omega)
    have hv6 : vp_in (nI k) 6 := vp_in_nI (by omega) (by omega)
    have hcg : (nI (gr k)).toNatClampNeg = gr k := nI_clamp (by omega)
    have hvg : vp_in (nI (gr k)) 6 := vp_in_nI (by omega) (by omega)
    have ih1 := ih (k + 1) (by omega)
    rw [onL] at ih1
    have hst : (onL gr (gI σ (f + 2)) k (s, x)).2 ≤ 0 → Rt none (wrC σ f (onL gr (gI σ (f + 2)) k (s, x)).1.1 (onL gr (gI σ (f + 2)) k (s, x)).1.2) := fun z => by
      have h3 := onL_stop z (j + 1)
      rw [hk] at h3
      rw [← h3]
      exact h
    generalize onL gr (gI σ (f + 2)) k (s, x) = u at ih1 hst ⊢
    refine X_wp [4] ck_X1_giveOneEach 34 ?_
    simp (decide := true) only [wp_s e_X1_giveOneEach_0, wp_s e_X1_giveOneEach_1, wp_s e_X1_giveOneEach_2, wp_s e_X1_giveOneEach_3, wp_s e_X1_giveOneEach_4, wp_s e_X1_giveOneEach_5, wp_s e_X1_giveOneEach_6, wp_s e_X1_giveOneEach_9, wp_s e_X1_giveOneEach_12, wp_s e_X1_giveOneEach_13, wp_s e_X1_giveOneEach_16, wp_s e_X1_giveOneEach_17, wp_s e_X1_giveOneEach_20, wp_s e_X1_giveOneEach_21, wp_s e_X1_giveOneEach_22, wp_s e_X1_giveOneEach_24, wp_s e_X1_giveOneEach_25, wp_s e_X1_giveOneEach_28, wp_s e_X1_giveOneEach_30, wp_s e_X1_giveOneEach_31, wp_s e_X1_giveOneEach_32, wp_s e_X1_giveOneEach_35, wp_s e_X1_giveOneEach_37, wp_s e_X1_giveOneEach_38, wp_s e_X1_giveOneEach_41, wp_s e_X1_giveOneEach_42, wp_s e_X1_giveOneEach_44, wp_s e_X1_giveOneEach_45, wp_s e_X1_giveOneEach_48, wp_s e_X1_giveOneEach_51, wp_s e_X1_giveOneEach_54, wp_s e_X1_giveOneEach_57, st_iadd, st_isub, st_imul, st_iand, st_ior, st_ishl, st_ishr, st_idiv, st_irem, st_ladd, st_lsub, st_lmul, st_lor, st_land, st_ldiv, st_lshl, st_lcmp, st_i2l, st_i2b, st_l2i, st_i2c, st_iconst, st_bipush, st_sipush, st_lconst, st_ldc2_w, st_ldc_w, st_ldcI, st_ldcS, st_iload, st_iload_n, st_lload, st_lload_n, st_aload, st_aload_n, st_istore, st_istore_n, st_lstore, st_lstore_n, st_astore, st_astore_n, st_iinc, st_dup, st_pop, st_dup2, st_ifCond, st_if_icmp, st_goto, st_getI, st_getL, st_getR, st_putI, st_putL, st_putR, st_putZ, st_sval, st_scod, st_baload, st_baloadS, st_alen, st_alenS, st_gets1, st_getsF, st_iaload, st_laload, st_aaload, st_iastore, st_lastore, st_bastoreB, st_bastoreZ, st_aastore, st_iret, st_zret, st_cret, st_bret, st_return_, st_areturn, st_invV, st_invVS, st_invS, st_invI, st_min, st_max, st_obj, st_new, st_newarray, st_anewarray, st_multianewarray, st_table, st_lookup, pI_c, pL_c, pR_c, p1_i, p1_r, p1_n, iI_0, iI_s, iL_0, iL_s, iR_0, iR_s, rfV_s, kc_c, kl_c, cats_0, cats_i, cats_l, cats_r, rcv_c, rcvS_c, isRefA_c, cl_0, cl_1, cl_2, cl_3, cl_4, cl_5, cl_6, cl_7, set1_0, set1_1i, set1_1r, set1_1n, set1_s, set2_s, set2_1i, set2_1r, set2_1n, toL_s, toL_n, cnd, and_self, true_and, and_true, true_or, or_true, List.contains_nil, List.contains_cons, Bool.or_false, beq_iff_eq, Nat.reduceBEq, Nat.reduceEqDiff, Nat.reduceAdd, Nat.reduceLeDiff, Nat.reduceSub, Bool.false_eq_true, if_false, if_true, Nat.zero_le, Nat.add_zero, Nat.zero_add, Nat.le_refl, gN_sI, gN_sL, gN_sR, gR_sI, gR_sL, gR_sR, s0, s1, s2, s3, s4, s5, s6, hb0, hb1, hb2, hb3, hb4, hb5, hb6, r0, r1, r2, r5, r6, r7, gR_wrC, gN_wrC, gI_wrC_t, gI_wrC_l, hw2, hw6, hw9, hc, hd0, hcl, hv6, hg2, hcg, hvg, nI_1]
    refine ⟨fun c => absurd c (nI_ge (by omega) (by omega)), fun _ => ⟨fun c => hst c, fun c => ⟨fun c2 => ?_, fun c2 => ?_⟩⟩⟩
    · rw [if_neg (fun z => absurd z.2 (Int32.not_lt.mpr c2))] at ih1
      exact ih1 _
    · refine C_X1_give hF0 hg1 ?_
      rw [if_pos ⟨Int32.not_le.mp c, Int32.not_le.mp c2⟩, gv] at ih1
      (simp (decide := true) only [st_iadd, st_isub, st_imul, st_iand, st_ior, st_ishl, st_ishr, st_idiv, st_irem, st_ladd, st_lsub, st_lmul, st_lor, st_land, st_ldiv, st_lshl, st_lcmp, st_i2l, st_i2b, st_l2i, st_i2c, st_iconst, st_bipush, st_sipush, st_lconst, st_ldc2_w, st_ldc_w, st_ldcI, st_ldcS, st_iload, st_iload_n, st_lload, st_lload_n, st_aload, st_aload_n, st_istore, st_istore_n, st_lstore, st_lstore_n, st_astore, st_astore_n, st_iinc, st_dup, st_pop, st_dup2, st_ifCond, st_if_icmp, st_goto, st_getI, st_getL, st_getR, st_putI, st_putL, st_putR, st_putZ, st_sval, st_scod, st_baload, st_baloadS, st_alen, st_alenS, st_gets1, st_getsF, st_iaload, st_laload, st_aaload, st_iastore, st_lastore, st_bastoreB, st_bastoreZ, st_aastore, st_iret, st_zret, st_cret, st_bret, st_return_, st_areturn, st_invV, st_invVS, st_invS, st_invI, st_min, st_max, st_obj, st_new, st_newarray, st_anewarray, st_multianewarray, st_table, st_lookup, pI_c, pL_c, pR_c, p1_i, p1_r, p1_n, iI_0, iI_s, iL_0, iL_s, iR_0, iR_s, rfV_s, kc_c, kl_c, cats_0, cats_i, cats_l, cats_r, rcv_c, rcvS_c, isRefA_c, cl_0, cl_1, cl_2, cl_3, cl_4, cl_5, cl_6, cl_7, set1_0, set1_1i, set1_1r, set1_1n, set1_s, set2_s, set2_1i, set2_1r, set2_1n, toL_s, toL_n, cnd, and_self, true_and, and_true, true_or, or_true, List.contains_nil, List.contains_cons, Bool.or_false, beq_iff_eq, Nat.reduceBEq, Nat.reduceEqDiff, Nat.reduceAdd, Nat.reduceLeDiff, Nat.reduceSub, Bool.false_eq_true, if_false, if_true, Nat.zero_le, Nat.add_zero, Nat.zero_add, Nat.le_refl, gN_sI, gN_sL, gN_sR, gR_sI, gR_sL, gR_sR, s0, s1, s2, s3, s4, s5, s6, hb0, hb1, hb2, hb3, hb4, hb5, hb6, r0, r1, r2, r5, r6, r7, gR_wrC, gN_wrC, gI_wrC_t, gI_wrC_l, hw2, hw6, hw9, hc, hd0, hcl, hv6, hg2, hcg, hvg, nI_1]; try simp (decide := true) only [cats_0, cats_i, cats_r, cats_l, bI_0, bI_1, bI_01, true_and, and_true, and_self, Nat.zero_le, Nat.reduceAdd, Nat.reduceLeDiff])
      exact ih1 _
end FIG
