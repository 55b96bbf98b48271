/-- a row of orders: its array and where they begin -/
def OrdAt (σ : St) (oa ob : Nat) : Prop := gN σ = 107 ∧ 25 ≤ ob ∧ sh oa = (7, 6) ∧ oa < 107 ∧ ∀ o, o < 6 → gR σ oa o = some (ob + o) ∧ sh (ob + o) = (0, 3) ∧ ob + o < 107
def cFloor (σ : St) (b p : Nat) (net : Int32) : Int32 := maxI (gI σ b 6 * gI σ (b + 13 + p) 0) ((gI σ b 7 * net + 99) / 100)
def presF (σ : St) (ob n : Nat) (p : Int32) (o : Nat) : Bool := decide (o < n) && (atB σ (ob + o) p && liveB σ (ob + o))
/-- the ranks of those that are there, as bits -/
def rkB (σ : St) (ob : Nat) (pr : Nat → Bool) : Nat → Int32
  | 0 => 0
  | k + 1 => if pr k then rkB σ ob pr k ||| (1 : Int32) <<< (gI σ (ob + k) 0 &&& 31) else rkB σ ob pr k
section FIG4
variable {d f b p n oa ob n0 : Nat} {σ σ1 : St} {Rt : Option Value → St → Prop} {S : Nat → Nat → Prop} {net : Int32}
theorem restF_row {k : Nat} (h : gI σ1 k = gI σ k) : restF σ1 k = restF σ k := by unfold restF; rw [h]
theorem liveB_row {k : Nat} (h : gI σ1 k = gI σ k) : liveB σ1 k = liveB σ k := by unfold liveB; rw [restF_row h, h]
theorem atB_row {k : Nat} {p : Int32} (h : gI σ1 k = gI σ k) : atB σ1 k p = atB σ k p := by unfold atB; rw [h]
theorem OrdAt_Fr (h : Fr S σ σ1) (hO : OrdAt σ oa ob) : OrdAt σ1 oa ob := by
  unfold OrdAt at hO ⊢
  rw [h.1, h.2.2.1]
  exact hO
theorem DeskAt_Fr (h : Fr S σ σ1) (hO : DeskAt σ b) : DeskAt σ1 b := by
  unfold DeskAt at hO ⊢
  rw [h.1, h.2.2.1]
  exact hO
theorem OrdAt_desk (h : DeskAt σ b) : OrdAt σ (b + 3) (b + 16) := by
  obtain ⟨hN, hb, r0, r1, r2, r3, r4, r5⟩ := h
  obtain ⟨s0, s1, s2, s3, s4, s5, s6⟩ := dsh b hb
  exact ⟨hN, by omega, s3, by omega, fun o ho => ⟨r5 o ho, s6 o ho, by omega⟩⟩
set_option maxRecDepth 10000 in
theorem C_X0_floorOf (hd : 1 ≤ d) (hD : DeskAt σ b) (hp : p < 3) (h : Rt (some (.int (cFloor σ b p net))) σ) : Con d q_X0_floorOf 0 0 [.ref b, .int (nI p), .int net] σ Rt := by
  obtain ⟨hN, hb, r0, r1, r2, r3, r4, r5⟩ := hD
  obtain ⟨s0, s1, s2, s3, s4, s5, s6⟩ := dsh b hb
  have hb0 : b < gN σ := by omega
  have hb2 : b + 2 < gN σ := by omega
  have hbp : b + 13 + p < gN σ := by omega
  have hcl : (nI p).toNatClampNeg = p := nI_clamp (by omega)
  have hv3 : vp_in (nI p) 3 := vp_in_nI (by omega) (by omega)
  have r4p := r4 p hp
  have s5p := s5 p hp
  refine Con_of_X (ls := [.ref b, .int (nI p), .int net, .null]) rfl (Nat.le_of_ble_eq_true rfl) rfl ?_
  refine X_wp [] ck_X0_floorOf 22 ?_
  simp (decide := true) only [wp_s e_X0_floorOf_0, wp_s e_X0_floorOf_1, wp_s e_X0_floorOf_4, wp_s e_X0_floorOf_5, wp_s e_X0_floorOf_6, wp_s e_X0_floorOf_8, wp_s e_X0_floorOf_9, wp_s e_X0_floorOf_11, wp_s e_X0_floorOf_12, wp_s e_X0_floorOf_13, wp_s e_X0_floorOf_14, wp_s e_X0_floorOf_17, wp_s e_X0_floorOf_18, wp_s e_X0_floorOf_21, wp_s e_X0_floorOf_22, wp_s e_X0_floorOf_23, wp_s e_X0_floorOf_26, wp_s e_X0_floorOf_27, wp_s e_X0_floorOf_28, wp_s e_X0_floorOf_31, st_iadd, st_isub, st_imul, st_iand, st_ior, st_ishl, st_ishr, st_idiv, st_irem, st_ladd, st_lsub, st_lmul, st_lor, st_land, st_ldiv, st_lshl, st_lcmp, st_i2l, st_i2b, st_l2i, st_i2c, st_iconst, st_bipush, st_sipush, st_lconst, st_ldc2_w, st_ldc_w, st_ldcI, st_ldcS, st_iload, st_iload_n, st_lload, st_lload_n, st_aload, st_aload_n, st_istore, st_istore_n, st_lstore, st_lstore_n, st_astore, st_astore_n, st_iinc, st_dup, st_pop, st_dup2, st_ifCond, st_if_icmp, st_goto, st_getI, st_getL, st_getR, st_putI, st_putL, st_putR, st_putZ, st_sval, st_scod, st_baload, st_baloadS, st_alen, st_alenS, st_gets1, st_getsF, st_iaload, st_laload, st_aaload, st_iastore, st_lastore, st_bastoreB, st_bastoreZ, st_aastore, st_iret, st_zret, st_cret, st_bret, st_return_, st_areturn, st_invV, st_invVS, st_invS, st_invI, st_min, st_max, st_obj, st_new, st_newarray, st_anewarray, st_multianewarray, st_table, st_lookup, pI_c, pL_c, pR_c, p1_i, p1_r, p1_n, iI_0, iI_s, iL_0, iL_s, iR_0, iR_s, rfV_s, kc_c, kl_c, cats_0, cats_i, cats_l, cats_r, rcv_c, rcvS_c, isRefA_c, cl_0, cl_1, cl_2, cl_3, cl_4, cl_5, cl_6, cl_7, set1_0, set1_1i, set1_1r, set1_1n, set1_s, set2_s, set2_1i, set2_1r, set2_1n, toL_s, toL_n, cnd, and_self, true_and, and_true, true_or, or_true, List.contains_nil, List.contains_cons, Bool.or_false, beq_iff_eq, Nat.reduceBEq, Nat.reduceEqDiff, Nat.reduceAdd, Nat.reduceLeDiff, Nat.reduceSub, Bool.false_eq_true, if_false, if_true, Nat.zero_le, Nat.add_zero, Nat.zero_add, Nat.le_refl, gN_sI, gN_sL, gN_sR, gR_sI, gR_sL, gR_sR, s0, s2, hb0, hb2, hbp, r1, r4p, s5p, hcl, hv3]
  first | exact ⟨by omega, h⟩ | exact h | (refine ⟨by decide, ?_⟩; exact ⟨by omega, h⟩)
set_option maxRecDepth 10000 in
theorem C_X1_begin {p : Int32} (hd : 3 ≤ d) (hF : FigAt σ f) (hO : OrdAt σ oa ob) (hn : n ≤ 6) (h : ∀ σ', Fr (fun a _ => a = f + 1 ∨ a = f + 2 ∨ a = f + 3) σ σ' → (∀ o, o < 6 → gI σ' (f + 1) o = bI (presF σ ob n p o) ∧ gI σ' (f + 2) o = 0 ∧ gI σ' (f + 3) o = 0) → (∀ o, 6 ≤ o → gI σ' (f + 2) o = gI σ (f + 2) o ∧ gI σ' (f + 3) o = gI σ (f + 3) o) → Rt (some (.int (rkB σ ob (presF σ ob n p) 6))) σ') : Con d q_X1_begin 0 0 [.ref f, .ref oa, .int (nI n), .int p] σ Rt := by
  have hF0 := hF
  obtain ⟨hN, hf, r0, r1, r2, r5, r6, r7⟩ := hF
  obtain ⟨s0, s1, s2, s3, s4, s5, s6⟩ := fsh f hf
  have hb0 : f < gN σ := by omega
  have hb1 : f + 1 < gN σ := by omega
  have hb2 : f + 2 < gN σ := by omega
  have hb3 : f + 3 < gN σ := by omega
  have hb4 : f + 4 < gN σ := by omega
  have hb5 : f + 5 < gN σ := by omega
  have hb6 : f + 6 < gN σ := by omega
  obtain ⟨_, hob, so, hoN, hO1⟩ := hO
  have hd0 : 0 < d := by omega
  have hoN : oa < gN σ := by omega
  refine Con_of_X (ls := [.ref f, .ref oa, .int (nI n), .int p, .null, .null]) rfl (Nat.le_of_ble_eq_true rfl) rfl ?_
  refine X_wp [6] ck_X1_begin 53 ?_
  simp (decide := true) only [wp_s e_X1_begin_0, wp_s e_X1_begin_1, wp_s e_X1_begin_3, wp_s e_X1_begin_4, wp_s e_X1_begin_6, wp_s e_X1_begin_8, wp_s e_X1_begin_10, wp_s e_X1_begin_13, wp_s e_X1_begin_14, wp_s e_X1_begin_17, wp_s e_X1_begin_19, wp_s e_X1_begin_20, wp_s e_X1_begin_21, wp_s e_X1_begin_22, wp_s e_X1_begin_25, wp_s e_X1_begin_27, wp_s e_X1_begin_28, wp_s e_X1_begin_29, wp_s e_X1_begin_30, wp_s e_X1_begin_33, wp_s e_X1_begin_35, wp_s e_X1_begin_37, wp_s e_X1_begin_38, wp_s e_X1_begin_41, wp_s e_X1_begin_42, wp_s e_X1_begin_44, wp_s e_X1_begin_45, wp_s e_X1_begin_46, wp_s e_X1_begin_49, wp_s e_X1_begin_52, wp_s e_X1_begin_53, wp_s e_X1_begin_56, wp_s e_X1_begin_57, wp_s e_X1_begin_58, wp_s e_X1_begin_59, wp_s e_X1_begin_62, wp_s e_X1_begin_64, wp_s e_X1_begin_65, wp_s e_X1_begin_68, wp_s e_X1_begin_70, wp_s e_X1_begin_71, wp_s e_X1_begin_72, wp_s e_X1_begin_74, wp_s e_X1_begin_75, wp_s e_X1_begin_78, wp_s e_X1_begin_79, wp_s e_X1_begin_80, wp_s e_X1_begin_82, wp_s e_X1_begin_85, wp_s e_X1_begin_88, wp_s e_X1_begin_90, st_iadd, st_isub, st_imul, st_iand, st_ior, st_ishl, st_ishr, st_idiv, st_irem, st_ladd, st_lsub, st_lmul, st_lor, st_land, st_ldiv, st_lshl, st_lcmp, st_i2l, st_i2b, st_l2i, st_i2c, st_iconst, st_bipush, st_sipush, st_lconst, st_ldc2_w, st_ldc_w, st_ldcI, st_ldcS, st_iload, st_iload_n, st_lload, st_lload_n, st_aload, st_aload_n, st_istore, st_istore_n, st_lstore, st_lstore_n, st_astore, st_astore_n, st_iinc, st_dup, st_pop, st_dup2, st_ifCond, st_if_icmp, st_goto, st_getI, st_getL, st_getR, st_putI, st_putL, st_putR, st_putZ, st_sval, st_scod, st_baload, st_baloadS, st_alen, st_alenS, st_gets1, st_getsF, st_iaload, st_laload, st_aaload, st_iastore, st_lastore, st_bastoreB, st_bastoreZ, st_aastore, st_iret, st_zret, st_cret, st_bret, st_return_, st_areturn, st_invV, st_invVS, st_invS, st_invI, st_min, st_max, st_obj, st_new, st_newarray, st_anewarray, st_multianewarray, st_table, st_lookup, pI_c, pL_c, pR_c, p1_i, p1_r, p1_n, iI_0, iI_s, iL_0, iL_s, iR_0, iR_s, rfV_s, kc_c, kl_c, cats_0, cats_i, cats_l, cats_r, rcv_c, rcvS_c, isRefA_c, cl_0, cl_1, cl_2, cl_3, cl_4, cl_5, cl_6, cl_7, set1_0, set1_1i, set1_1r, set1_1n, set1_s, set2_s, set2_1i, set2_1r, set2_1n, toL_s, toL_n, cnd, and_self, true_and, and_true, true_or, or_true, List.contains_nil, List.contains_cons, Bool.or_false, beq_iff_eq, Nat.reduceBEq, Nat.reduceEqDiff, Nat.reduceAdd, Nat.reduceLeDiff, Nat.reduceSub, Bool.false_eq_true, if_false, if_true, Nat.zero_le, Nat.add_zero, Nat.zero_add, Nat.le_refl, gN_sI, gN_sL, gN_sR, gR_sI, gR_sL, gR_sR, s0, s1, s2, s3, s4, s5, s6, hb0, hb1, hb2, hb3, hb4, hb5, hb6, r0, r1, r2, r5, r6, r7, hd0]
  suffices hh : ∀ (j k : Nat), k + j = 6 → ∀ (σ1 : St), Fr (fun a _ => a = f + 1 ∨ a = f + 2 ∨ a = f + 3) σ σ1 → (∀ o, o < k → gI σ1 (f + 1) o = bI (presF σ ob n p o) ∧ gI σ1 (f + 2) o = 0 ∧ gI σ1 (f + 3) o = 0) → (∀ o, 6 ≤ o → gI σ1 (f + 2) o = gI σ (f + 2) o ∧ gI σ1 (f + 3) o = gI σ (f + 3) o) → X d q_X1_begin (gN σ) 0 0 Rt 6 0 0 [.ref f, .ref oa, .int (nI n), .int p, .int (rkB σ ob (presF σ ob n p) k), .int (nI k)] [] σ1 from hh 6 0 (by omega) σ Fr.rfl (fun o ho => absurd ho (Nat.not_lt_zero o)) (fun o _ => ⟨rfl, rfl⟩)
  intro j
  induction j with
  | zero =>
    intro k hk σ1 hfr hv hz
    obtain rfl : k = 6 := by omega
    have qN : gN σ1 = gN σ := hfr.2.2.1
    refine X_wp [6] ck_X1_begin 53 ?_
    simp (decide := true) only [wp_s e_X1_begin_0, wp_s e_X1_begin_1, wp_s e_X1_begin_3, wp_s e_X1_begin_4, wp_s e_X1_begin_6, wp_s e_X1_begin_8, wp_s e_X1_begin_10, wp_s e_X1_begin_13, wp_s e_X1_begin_14, wp_s e_X1_begin_17, wp_s e_X1_begin_19, wp_s e_X1_begin_20, wp_s e_X1_begin_21, wp_s e_X1_begin_22, wp_s e_X1_begin_25, wp_s e_X1_begin_27, wp_s e_X1_begin_28, wp_s e_X1_begin_29, wp_s e_X1_begin_30, wp_s e_X1_begin_33, wp_s e_X1_begin_35, wp_s e_X1_begin_37, wp_s e_X1_begin_38, wp_s e_X1_begin_41, wp_s e_X1_begin_42, wp_s e_X1_begin_44, wp_s e_X1_begin_45, wp_s e_X1_begin_46, wp_s e_X1_begin_49, wp_s e_X1_begin_52, wp_s e_X1_begin_53, wp_s e_X1_begin_56, wp_s e_X1_begin_57, wp_s e_X1_begin_58, wp_s e_X1_begin_59, wp_s e_X1_begin_62, wp_s e_X1_begin_64, wp_s e_X1_begin_65, wp_s e_X1_begin_68, wp_s e_X1_begin_70, wp_s e_X1_begin_71, wp_s e_X1_begin_72, wp_s e_X1_begin_74, wp_s e_X1_begin_75, wp_s e_X1_begin_78, wp_s e_X1_begin_79, wp_s e_X1_begin_80, wp_s e_X1_begin_82, wp_s e_X1_begin_85, wp_s e_X1_begin_88, wp_s e_X1_begin_90, st_iadd, st_isub, st_imul, st_iand, st_ior, st_ishl, st_ishr, st_idiv, st_irem, st_ladd, st_lsub, st_lmul, st_lor, st_land, st_ldiv, st_lshl, st_lcmp, st_i2l, st_i2b, st_l2i, st_i2c, st_iconst, st_bipush, st_sipush, st_lconst, st_ldc2_w, st_ldc_w, st_ldcI, st_ldcS, st_iload, st_iload_n, st_lload, st_lload_n, st_aload, st_aload_n, st_istore, st_istore_n, st_lstore, st_lstore_n, st_astore, st_astore_n, st_iinc, st_dup, st_pop, st_dup2, st_ifCond, st_if_icmp, st_goto, st_getI, st_getL, st_getR, st_putI, st_putL, st_putR, st_putZ, st_sval, st_scod, st_baload, st_baloadS, st_alen, st_alenS, st_gets1, st_getsF, st_iaload, st_laload, st_aaload, st_iastore, st_lastore, st_bastoreB, st_bastoreZ, st_aastore, st_iret, st_zret, st_cret, st_bret, st_return_, st_areturn, st_invV, st_invVS, st_invS, st_invI, st_min, st_max, st_obj, st_new, st_newarray, st_anewarray, st_multianewarray, st_table, st_lookup, pI_c, pL_c, pR_c, p1_i, p1_r, p1_n, iI_0, iI_s, iL_0, iL_s, iR_0, iR_s, rfV_s, kc_c, kl_c, cats_0, cats_i, cats_l, cats_r, rcv_c, rcvS_c, isRefA_c, cl_0, cl_1, cl_2, cl_3, cl_4, cl_5, cl_6, cl_7, set1_0, set1_1i, set1_1r, set1_1n, set1_s, set2_s, set2_1i, set2_1r, set2_1n, toL_s, toL_n, cnd, and_self, true_and, and_true, true_or, or_true, List.contains_nil, List.contains_cons, Bool.or_false, beq_iff_eq, Nat.reduceBEq, Nat.reduceEqDiff, Nat.reduceAdd, Nat.reduceLeDiff, Nat.reduceSub, Bool.false_eq_true, if_false, if_true, Nat.zero_le, Nat.add_zero, Nat.zero_add, Nat.le_refl, gN_sI, gN_sL, gN_sR, gR_sI, gR_sL, gR_sR, s0, s1, s2, s3, s4, s5, s6, hb0, hb1, hb2, hb3, hb4, hb5, hb6, r0, r1, r2, r5, r6, r7, hd0, qN]
    first | exact ⟨fun _ => h σ1 hfr hv hz, fun c => c.elim⟩ | exact h σ1 hfr hv hz
  | succ j ih =>
    intro k hk σ1 hfr hv hz
    obtain ⟨ro, sho, hbo⟩ := hO1 k (by omega)
    have hbo : ob + k < gN σ := by omega
    have hcl : (nI k).toNatClampNeg = k := nI_clamp (by omega)
    have hv6 : vp_in (nI k) 6 := vp_in_nI (by omega) (by omega)
    have qN : gN σ1 = gN σ := hfr.2.2.1
    have q0 : gR σ1 = gR σ := hfr.1
    have hk6 : ¬ nI 6 ≤ nI k := nI_ge (by omega) (by omega)
    have ih1 := ih (k + 1) (by omega)
    rw [rkB] at ih1
    have hX : ∀ v : Int32, Fr (fun a _ => a = f + 1 ∨ a = f + 2 ∨ a = f + 3) σ (sI (sI (sI σ1 (f + 2) k 0) (f + 3) k 0) (f + 1) k v) := fun v => ((hfr.sI (Or.inr (Or.inl rfl))).sI (Or.inr (Or.inr rfl))).sI (Or.inl rfl)
    have hY : Fr (fun a _ => a = f + 1 ∨ a = f + 2 ∨ a = f + 3) σ (sI (sI σ1 (f + 2) k 0) (f + 3) k 0) := (hfr.sI (Or.inr (Or.inl rfl))).sI (Or.inr (Or.inr rfl))
    have hrow : gI (sI (sI σ1 (f + 2) k 0) (f + 3) k 0) (ob + k) = gI σ (ob + k) := hY.row (fun b => by omega)
    have hrX : ∀ v : Int32, gI (sI (sI (sI σ1 (f + 2) k 0) (f + 3) k 0) (f + 1) k v) (ob + k) = gI σ (ob + k) := fun v => (hX v).row (fun b => by omega)
    have hV : ∀ v : Int32, v = bI (presF σ ob n p k) → ∀ o, o < k + 1 → gI (sI (sI (sI σ1 (f + 2) k 0) (f + 3) k 0) (f + 1) k v) (f + 1) o = bI (presF σ ob n p o) ∧ gI (sI (sI (sI σ1 (f + 2) k 0) (f + 3) k 0) (f + 1) k v) (f + 2) o = 0 ∧ gI (sI (sI (sI σ1 (f + 2) k 0) (f + 3) k 0) (f + 1) k v) (f + 3) o = 0 := by
      intro v hv1 o ho
      by_cases hok : o = k
      · subst hok
        simp [gI_sI, hv1]
      · have := hv o (by omega)
        simp [gI_sI, hok, this]
    have hZ : ∀ v : Int32, ∀ o, 6 ≤ o → gI (sI (sI (sI σ1 (f + 2) k 0) (f + 3) k 0) (f + 1) k v) (f + 2) o = gI σ (f + 2) o ∧ gI (sI (sI (sI σ1 (f + 2) k 0) (f + 3) k 0) (f + 1) k v) (f + 3) o = gI σ (f + 3) o := by
      intro v o ho
      have hok : ¬ o = k := by omega
      have := hz o ho
      simp [gI_sI, hok, this]
    refine X_wp [6] ck_X1_begin 53 ?_
    simp (decide := true) only [wp_s e_X1_begin_0, wp_s e_X1_begin_1, wp_s e_X1_begin_3, wp_s e_X1_begin_4, wp_s e_X1_begin_6, wp_s e_X1_begin_8, wp_s e_X1_begin_10, wp_s e_X1_begin_13, wp_s e_X1_begin_14, wp_s e_X1_begin_17, wp_s e_X1_begin_19, wp_s e_X1_begin_20, wp_s e_X1_begin_21, wp_s e_X1_begin_22, wp_s e_X1_begin_25, wp_s e_X1_begin_27, wp_s e_X1_begin_28, wp_s e_X1_begin_29, wp_s e_X1_begin_30, wp_s e_X1_begin_33, wp_s e_X1_begin_35, wp_s e_X1_begin_37, wp_s e_X1_begin_38, wp_s e_X1_begin_41, wp_s e_X1_begin_42, wp_s e_X1_begin_44, wp_s e_X1_begin_45, wp_s e_X1_begin_46, wp_s e_X1_begin_49, wp_s e_X1_begin_52, wp_s e_X1_begin_53, wp_s e_X1_begin_56, wp_s e_X1_begin_57, wp_s e_X1_begin_58, wp_s e_X1_begin_59, wp_s e_X1_begin_62, wp_s e_X1_begin_64, wp_s e_X1_begin_65, wp_s e_X1_begin_68, wp_s e_X1_begin_70, wp_s e_X1_begin_71, wp_s e_X1_begin_72, wp_s e_X1_begin_74, wp_s e_X1_begin_75, wp_s e_X1_begin_78, wp_s e_X1_begin_79, wp_s e_X1_begin_80, wp_s e_X1_begin_82, wp_s e_X1_begin_85, wp_s e_X1_begin_88, wp_s e_X1_begin_90, st_iadd, st_isub, st_imul, st_iand, st_ior, st_ishl, st_ishr, st_idiv, st_irem, st_ladd, st_lsub, st_lmul, st_lor, st_land, st_ldiv, st_lshl, st_lcmp, st_i2l, st_i2b, st_l2i, st_i2c, st_iconst, st_bipush, st_sipush, st_lconst, st_ldc2_w, st_ldc_w, st_ldcI, st_ldcS, st_iload, st_iload_n, st_lload, st_lload_n, st_aload, st_aload_n, st_istore, st_istore_n, st_lstore, st_lstore_n, st_astore, st_astore_n, st_iinc, st_dup, st_pop, st_dup2, st_ifCond, st_if_icmp, st_goto, st_getI, st_getL, st_getR, st_putI, st_putL, st_putR, st_putZ, st_sval, st_scod, st_baload, st_baloadS, st_alen, st_alenS, st_gets1, st_getsF, st_iaload, st_laload, st_aaload, st_iastore, st_lastore, st_bastoreB, st_bastoreZ, st_aastore, st_iret, st_zret, st_cret, st_bret, st_return_, st_areturn, st_invV, st_invVS, st_invS, st_invI, st_min, st_max, st_obj, st_new, st_newarray, st_anewarray, st_multianewarray, st_table, st_lookup, pI_c, pL_c, pR_c, p1_i, p1_r, p1_n, iI_0, iI_s, iL_0, iL_s, iR_0, iR_s, rfV_s, kc_c, kl_c, cats_0, cats_i, cats_l, cats_r, rcv_c, rcvS_c, isRefA_c, cl_0, cl_1, cl_2, cl_3, cl_4, cl_5, cl_6, cl_7, set1_0, set1_1i, set1_1r, set1_1n, set1_s, set2_s, set2_1i, set2_1r, set2_1n, toL_s, toL_n, cnd, and_self, true_and, and_true, true_or, or_true, List.contains_nil, List.contains_cons, Bool.or_false, beq_iff_eq, Nat.reduceBEq, Nat.reduceEqDiff, Nat.reduceAdd, Nat.reduceLeDiff, Nat.reduceSub, Bool.false_eq_true, if_false, if_true, Nat.zero_le, Nat.add_zero, Nat.zero_add, Nat.le_refl, gN_sI, gN_sL, gN_sR, gR_sI, gR_sL, gR_sR, s0, s1, s2, s3, s4, s5, s6, hb0, hb1, hb2, hb3, hb4, hb5, hb6, r0, r1, r2, r5, r6, r7, hd0, so, hoN, qN, q0, hcl, hv6, ro, sho, hbo, nI_1, gI_same, bI_0, bI_01, true_implies, false_implies]
    refine ⟨fun c => absurd c hk6, fun _ => ⟨fun c => ?_, fun c => ?_⟩⟩
    · have hpr : presF σ ob n p k = false := by
        unfold presF
        rw [decide_eq_false (fun z => absurd c (nI_ge z (by omega)))]
        rfl
      rw [if_neg (by rw [hpr]; decide)] at ih1
      exact ih1 _ (hX 0) (hV 0 (by rw [hpr]; rfl)) (hZ 0)
    · have hlt : k < n := Nat.lt_of_not_le fun z => c (nI_le z (by omega))
      refine C_X3_isLiveAt (by omega) sho (by show ob + k < gN σ1; omega) ?_
      rw [atB_row hrow, liveB_row hrow]
      have hpr : presF σ ob n p k = (atB σ (ob + k) p && liveB σ (ob + k)) := by
        unfold presF
        rw [decide_eq_true hlt]
        rfl
      rw [← hpr]
      simp (decide := true) only [wp_s e_X1_begin_0, wp_s e_X1_begin_1, wp_s e_X1_begin_3, wp_s e_X1_begin_4, wp_s e_X1_begin_6, wp_s e_X1_begin_8, wp_s e_X1_begin_10, wp_s e_X1_begin_13, wp_s e_X1_begin_14, wp_s e_X1_begin_17, wp_s e_X1_begin_19, wp_s e_X1_begin_20, wp_s e_X1_begin_21, wp_s e_X1_begin_22, wp_s e_X1_begin_25, wp_s e_X1_begin_27, wp_s e_X1_begin_28, wp_s e_X1_begin_29, wp_s e_X1_begin_30, wp_s e_X1_begin_33, wp_s e_X1_begin_35, wp_s e_X1_begin_37, wp_s e_X1_begin_38, wp_s e_X1_begin_41, wp_s e_X1_begin_42, wp_s e_X1_begin_44, wp_s e_X1_begin_45, wp_s e_X1_begin_46, wp_s e_X1_begin_49, wp_s e_X1_begin_52, wp_s e_X1_begin_53, wp_s e_X1_begin_56, wp_s e_X1_begin_57, wp_s e_X1_begin_58, wp_s e_X1_begin_59, wp_s e_X1_begin_62, wp_s e_X1_begin_64, wp_s e_X1_begin_65, wp_s e_X1_begin_68, wp_s e_X1_begin_70, wp_s e_X1_begin_71, wp_s e_X1_begin_72, wp_s e_X1_begin_74, wp_s e_X1_begin_75, wp_s e_X1_begin_78, wp_s e_X1_begin_79, wp_s e_X1_begin_80, wp_s e_X1_begin_82, wp_s e_X1_begin_85, wp_s e_X1_begin_88, wp_s e_X1_begin_90, st_iadd, st_isub, st_imul, st_iand, st_ior, st_ishl, st_ishr, st_idiv, st_irem, st_ladd, st_lsub, st_lmul, st_lor, st_land, st_ldiv, st_lshl, st_lcmp, st_i2l, st_i2b, st_l2i, st_i2c, st_iconst, st_bipush, st_sipush, st_lconst, st_ldc2_w, st_ldc_w, st_ldcI, st_ldcS, st_iload, st_iload_n, st_lload, st_lload_n, st_aload, st_aload_n, st_istore, st_istore_n, st_lstore, st_lstore_n, st_astore, st_astore_n, st_iinc, st_dup, st_pop, st_dup2, st_ifCond, st_if_icmp, st_goto, st_getI, st_getL, st_getR, st_putI, st_putL, st_putR, st_putZ, st_sval, st_scod, st_baload, st_baloadS, st_alen, st_alenS, st_gets1, st_getsF, st_iaload, st_laload, st_aaload, st_iastore, st_lastore, st_bastoreB, st_bastoreZ, st_aastore, st_iret, st_zret, st_cret, st_bret, st_return_, st_areturn, st_invV, st_invVS, st_invS, st_invI, st_min, st_max, st_obj, st_new, st_newarray, st_anewarray, st_multianewarray, st_table, st_lookup, pI_c, pL_c, pR_c, p1_i, p1_r, p1_n, iI_0, iI_s, iL_0, iL_s, iR_0, iR_s, rfV_s, kc_c, kl_c, cats_0, cats_i, cats_l, cats_r, rcv_c, rcvS_c, isRefA_c, cl_0, cl_1, cl_2, cl_3, cl_4, cl_5, cl_6, cl_7, set1_0, set1_1i, set1_1r, set1_1n, set1_s, set2_s, set2_1i, set2_1r, set2_1n, toL_s, toL_n, cnd, and_self, true_and, and_true, true_or, or_true, List.contains_nil, List.contains_cons, Bool.or_false, beq_iff_eq, Nat.reduceBEq, Nat.reduceEqDiff, Nat.reduceAdd, Nat.reduceLeDiff, Nat.reduceSub, Bool.false_eq_true, if_false, if_true, Nat.zero_le, Nat.add_zero, Nat.zero_add, Nat.le_refl, gN_sI, gN_sL, gN_sR, gR_sI, gR_sL, gR_sR, s0, s1, s2, s3, s4, s5, s6, hb0, hb1, hb2, hb3, hb4, hb5, hb6, r0, r1, r2, r5, r6, r7, hd0, so, hoN, qN, q0, hcl, hv6, ro, sho, hbo, nI_1, gI_same, bI_0, bI_01, true_implies, false_implies, hrX]
      refine ⟨fun c1 => ?_, fun c1 => ?_⟩
      · rw [if_neg (by rw [c1]; decide)] at ih1
        exact ih1 _ (hX 0) (hV 0 (by rw [c1]; rfl)) (hZ 0)
      · have c1 : presF σ ob n p k = true := by revert c1; cases presF σ ob n p k <;> simp
        rw [if_pos c1] at ih1
        exact ih1 _ (hX 1) (hV 1 (by rw [c1]; rfl)) (hZ 1)
end FIG4
