/-- a rank of the class; the ranks 1 .. i -/
def cM (σ : St) (ob : Nat) (pr : Nat → Bool) (r : Int32) (o : Nat) : Bool := pr o && decide (gI σ (ob + o) 0 = r)
def ckS (σ : St) (b ob p n : Nat) (net fl : Int32) (pr : Nat → Bool) (rks r : Int32) (x : (Nat → Int32) × (Nat → Int32) × ((Nat → Int32) × Int32)) : (Nat → Int32) × (Nat → Int32) × ((Nat → Int32) × Int32) :=
  if rks >>> (r &&& 31) &&& 1 = 1 then
    (wtF (cM σ ob pr r) (cWant σ b ob net (gI σ (b + 13 + p) 0) (maxI (x.2.2.2 - fl) 0)) n x.1, wtF (cM σ ob pr r) (cOwn σ ob fl (gI σ (b + 13 + p) 0)) n x.2.1,
      flC (gI σ b 8) (grF (cM σ ob pr r) n) (cN (cM σ ob pr r) n) (wtF (cM σ ob pr r) (cOwn σ ob fl (gI σ (b + 13 + p) 0)) n x.2.1) (wtF (cM σ ob pr r) (cWant σ b ob net (gI σ (b + 13 + p) 0) (maxI (x.2.2.2 - fl) 0)) n x.1) (cN (cM σ ob pr r) n) 1000000 x.2.2) else x
def ckF (σ : St) (b ob p n : Nat) (net fl : Int32) (pr : Nat → Bool) (rks : Int32) : Nat → (Nat → Int32) × (Nat → Int32) × ((Nat → Int32) × Int32) → (Nat → Int32) × (Nat → Int32) × ((Nat → Int32) × Int32)
  | 0, x => x
  | i + 1, x => ckS σ b ob p n net fl pr rks (nI (i + 1)) (ckF σ b ob p n net fl pr rks i x)
/-- a pay of the class, figured: wants, own floors, takes and left -/
def cPay (σ : St) (f b ob p n : Nat) (net : Int32) : (Nat → Int32) × (Nat → Int32) × ((Nat → Int32) × Int32) :=
  ckF σ b ob p n net (cFloor σ b p net) (presF σ ob n (nI p)) (rkB σ ob (presF σ ob n (nI p)) 6) 9 (zrF (gI σ (f + 2)) 6, gI σ (f + 4), (zrF (gI σ (f + 3)) 6, net))
section FIG6
variable {d f b p n oa ob n0 : Nat} {σ σ1 : St} {Rt : Option Value → St → Prop} {S : Nat → Nat → Prop} {net r : Int32} {pr : Nat → Bool}
theorem cM_hi (h : ∀ a, 25 ≤ a → gI σ1 a = gI σ a) (hob : 25 ≤ ob) : cM σ1 ob pr r = cM σ ob pr r := by
  funext o
  unfold cM
  rw [h (ob + o) (by omega)]
theorem cOwn_hi {fl w : Int32} (h : ∀ a, 25 ≤ a → gI σ1 a = gI σ a) (hob : 25 ≤ ob) : cOwn σ1 ob fl w = cOwn σ ob fl w := by
  funext o
  unfold cOwn
  rw [h (ob + o) (by omega)]
theorem cWant_hi {w ab : Int32} (h : ∀ a, 25 ≤ a → gI σ1 a = gI σ a) (hob : 25 ≤ ob) (hb : 25 ≤ b) : cWant σ1 b ob net w ab = cWant σ b ob net w ab := by
  funext o
  unfold cWant restF
  rw [h (ob + o) (by omega)]
  generalize (gI σ (ob + o) 4).toNatClampNeg = k
  unfold cTl
  rw [h (b + 4 + 3 * k) (by omega), h (b + 4 + 3 * k + 1) (by omega), h (b + 4 + 3 * k + 2) (by omega)]
theorem zrF_at {g : Nat → Int32} {j : Nat} : ∀ m, zrF g m j = if j < m then 0 else g j
  | 0 => rfl
  | m + 1 => by
    show upd (zrF g m) m 0 j = _
    by_cases hj : j = m
    · subst hj
      rw [pk_us, if_pos (Nat.lt_succ_self j)]
    · rw [pk_un hj, zrF_at m]
      by_cases h : j < m
      · rw [if_pos h, if_pos (by omega)]
      · rw [if_neg h, if_neg (by omega)]
set_option maxRecDepth 10000 in
theorem C_X1_reckon (hd : 5 ≤ d) (hF : FigAt σ f) (hD : DeskAt σ b) (hO : OrdAt σ oa ob) (hp : p < 3) (hn : n ≤ 6) (hc : gI σ b 5 = nI n) (hw : ∀ o, o < n → gI σ (ob + o) 3 = 1 → ∃ a m, a < 3 ∧ gI σ (ob + o) 4 = nI a ∧ (0 ≤ nI a ∧ nI a < gI σ b 3) ∧ TabAt σ (b + 4 + 3 * a) m) (h : ∀ σ', Fr (fun a _ => f ≤ a ∧ a ≤ f + 6) σ σ' → gI σ' f 3 = (cFloor σ b p net) → (∀ o, o < 6 → gI σ' (f + 1) o = bI (presF σ ob n (nI p) o)) → gI σ' (f + 2) = (cPay σ f b ob p n net).1 → gI σ' (f + 3) = (cPay σ f b ob p n net).2.2.1 → gI σ' f 4 = (cPay σ f b ob p n net).2.2.2 → Rt none σ') : Con d q_X1_reckon 0 0 [.ref f, .ref b, .ref oa, .int (nI p), .int net] σ Rt := by
  have hF0 := hF
  have hD0 := hD
  have hO0 := hO
  obtain ⟨hN, hf, r0, r1, r2, r5, r6, r7⟩ := hF
  obtain ⟨s0, s1, s2, s3, s4, s5, s6⟩ := fsh f hf
  obtain ⟨_, hbb, t0, t1, t2, t3, t4, t5⟩ := hD
  obtain ⟨u0, _, _, _, _, _, _⟩ := dsh b hbb
  have hob := hO.2.1
  have hd0 : 0 < d := by omega
  have hb0 : f < gN σ := by omega
  have hbb0 : b < gN σ := by omega
  refine Con_of_X (ls := [.ref f, .ref b, .ref oa, .int (nI p), .int net, .null, .null]) rfl (Nat.le_of_ble_eq_true rfl) rfl ?_
  refine X_wp [32] ck_X1_reckon 44 ?_
  simp (maxSteps := 2000000) (decide := true) only [wp_s e_X1_reckon_0, wp_s e_X1_reckon_1, wp_s e_X1_reckon_2, wp_s e_X1_reckon_3, wp_s e_X1_reckon_5, wp_s e_X1_reckon_8, wp_s e_X1_reckon_11, wp_s e_X1_reckon_12, wp_s e_X1_reckon_14, wp_s e_X1_reckon_17, wp_s e_X1_reckon_18, wp_s e_X1_reckon_19, wp_s e_X1_reckon_20, wp_s e_X1_reckon_23, wp_s e_X1_reckon_24, wp_s e_X1_reckon_27, wp_s e_X1_reckon_29, wp_s e_X1_reckon_30, wp_s e_X1_reckon_32, wp_s e_X1_reckon_34, wp_s e_X1_reckon_36, wp_s e_X1_reckon_39, wp_s e_X1_reckon_41, wp_s e_X1_reckon_43, wp_s e_X1_reckon_44, wp_s e_X1_reckon_45, wp_s e_X1_reckon_46, wp_s e_X1_reckon_47, wp_s e_X1_reckon_50, wp_s e_X1_reckon_51, wp_s e_X1_reckon_52, wp_s e_X1_reckon_53, wp_s e_X1_reckon_54, wp_s e_X1_reckon_56, wp_s e_X1_reckon_58, wp_s e_X1_reckon_61, wp_s e_X1_reckon_62, wp_s e_X1_reckon_63, wp_s e_X1_reckon_66, wp_s e_X1_reckon_69, wp_s e_X1_reckon_72, wp_s e_X1_reckon_75, ↓reduceIte, st_iadd, st_isub, st_imul, st_iand, st_ior, st_ishl, st_ishr, st_idiv, st_irem, st_ladd, st_lsub, st_lmul, st_lor, st_land, st_ldiv, st_lshl, st_lcmp, st_i2l, st_i2b, st_l2i, st_i2c, st_iconst, st_bipush, st_sipush, st_lconst, st_ldc2_w, st_ldc_w, st_ldcI, st_ldcS, st_iload, st_iload_n, st_lload, st_lload_n, st_aload, st_aload_n, st_istore, st_istore_n, st_lstore, st_lstore_n, st_astore, st_astore_n, st_iinc, st_dup, st_pop, st_dup2, st_ifCond, st_if_icmp, st_goto, st_getI, st_getL, st_getR, st_putI, st_putL, st_putR, st_putZ, st_sval, st_scod, st_baload, st_baloadS, st_alen, st_alenS, st_gets1, st_getsF, st_iaload, st_laload, st_aaload, st_iastore, st_lastore, st_bastoreB, st_bastoreZ, st_aastore, st_iret, st_zret, st_cret, st_bret, st_return_, st_areturn, st_invV, st_invVS, st_invS, st_invI, st_minI, st_maxI, st_obj, st_new, st_newarray, st_anewarray, st_multianewarray, st_table, st_lookup, pI_c, pL_c, pR_c, p1_i, p1_r, p1_n, iI_0, iI_s, iL_0, iL_s, iR_0, iR_s, rfV_s, kc_c, kl_c, cats_0, cats_i, cats_l, cats_r, rcv_c, rcvS_c, isRefA_c, cl_0, cl_1, cl_2, cl_3, cl_4, cl_5, cl_6, cl_7, set1_0, set1_1i, set1_1r, set1_1n, set1_s, set2_s, set2_1i, set2_1r, set2_1n, toL_s, toL_n, cnd, and_self, true_and, and_true, true_or, or_true, List.contains_nil, List.contains_cons, Bool.or_false, beq_iff_eq, Nat.reduceBEq, Nat.reduceEqDiff, Nat.reduceAdd, Nat.reduceLeDiff, Nat.reduceSub, Bool.false_eq_true, if_false, if_true, Nat.zero_le, Nat.add_zero, Nat.zero_add, Nat.le_refl, gN_sI, gN_sL, gN_sR, gR_sI, gR_sL, gR_sR, s0, u0, hb0, hbb0, hd0, hc, true_implies, false_implies]
  refine C_X0_floorOf (by omega) hD0 hp ?_
  have hq5 : ∀ x y : Int32, gI (sI (sI σ f 3 x) f 4 y) b 5 = nI n := fun x y => ((gI_ne (Or.inl (by omega))).trans (gI_ne (Or.inl (by omega)))).trans hc
  simp (maxSteps := 2000000) (decide := true) only [wp_s e_X1_reckon_0, wp_s e_X1_reckon_1, wp_s e_X1_reckon_2, wp_s e_X1_reckon_3, wp_s e_X1_reckon_5, wp_s e_X1_reckon_8, wp_s e_X1_reckon_11, wp_s e_X1_reckon_12, wp_s e_X1_reckon_14, wp_s e_X1_reckon_17, wp_s e_X1_reckon_18, wp_s e_X1_reckon_19, wp_s e_X1_reckon_20, wp_s e_X1_reckon_23, wp_s e_X1_reckon_24, wp_s e_X1_reckon_27, wp_s e_X1_reckon_29, wp_s e_X1_reckon_30, wp_s e_X1_reckon_32, wp_s e_X1_reckon_34, wp_s e_X1_reckon_36, wp_s e_X1_reckon_39, wp_s e_X1_reckon_41, wp_s e_X1_reckon_43, wp_s e_X1_reckon_44, wp_s e_X1_reckon_45, wp_s e_X1_reckon_46, wp_s e_X1_reckon_47, wp_s e_X1_reckon_50, wp_s e_X1_reckon_51, wp_s e_X1_reckon_52, wp_s e_X1_reckon_53, wp_s e_X1_reckon_54, wp_s e_X1_reckon_56, wp_s e_X1_reckon_58, wp_s e_X1_reckon_61, wp_s e_X1_reckon_62, wp_s e_X1_reckon_63, wp_s e_X1_reckon_66, wp_s e_X1_reckon_69, wp_s e_X1_reckon_72, wp_s e_X1_reckon_75, ↓reduceIte, st_iadd, st_isub, st_imul, st_iand, st_ior, st_ishl, st_ishr, st_idiv, st_irem, st_ladd, st_lsub, st_lmul, st_lor, st_land, st_ldiv, st_lshl, st_lcmp, st_i2l, st_i2b, st_l2i, st_i2c, st_iconst, st_bipush, st_sipush, st_lconst, st_ldc2_w, st_ldc_w, st_ldcI, st_ldcS, st_iload, st_iload_n, st_lload, st_lload_n, st_aload, st_aload_n, st_istore, st_istore_n, st_lstore, st_lstore_n, st_astore, st_astore_n, st_iinc, st_dup, st_pop, st_dup2, st_ifCond, st_if_icmp, st_goto, st_getI, st_getL, st_getR, st_putI, st_putL, st_putR, st_putZ, st_sval, st_scod, st_baload, st_baloadS, st_alen, st_alenS, st_gets1, st_getsF, st_iaload, st_laload, st_aaload, st_iastore, st_lastore, st_bastoreB, st_bastoreZ, st_aastore, st_iret, st_zret, st_cret, st_bret, st_return_, st_areturn, st_invV, st_invVS, st_invS, st_invI, st_minI, st_maxI, st_obj, st_new, st_newarray, st_anewarray, st_multianewarray, st_table, st_lookup, pI_c, pL_c, pR_c, p1_i, p1_r, p1_n, iI_0, iI_s, iL_0, iL_s, iR_0, iR_s, rfV_s, kc_c, kl_c, cats_0, cats_i, cats_l, cats_r, rcv_c, rcvS_c, isRefA_c, cl_0, cl_1, cl_2, cl_3, cl_4, cl_5, cl_6, cl_7, set1_0, set1_1i, set1_1r, set1_1n, set1_s, set2_s, set2_1i, set2_1r, set2_1n, toL_s, toL_n, cnd, and_self, true_and, and_true, true_or, or_true, List.contains_nil, List.contains_cons, Bool.or_false, beq_iff_eq, Nat.reduceBEq, Nat.reduceEqDiff, Nat.reduceAdd, Nat.reduceLeDiff, Nat.reduceSub, Bool.false_eq_true, if_false, if_true, Nat.zero_le, Nat.add_zero, Nat.zero_add, Nat.le_refl, gN_sI, gN_sL, gN_sR, gR_sI, gR_sL, gR_sR, s0, u0, hb0, hbb0, hd0, hc, true_implies, false_implies, hq5]
  have hfr0 : Fr (fun a _ => f ≤ a ∧ a ≤ f + 6) σ (sI (sI σ f 3 (cFloor σ b p net)) f 4 net) := (Fr.rfl.sI ⟨Nat.le_refl f, Nat.le_add_right f 6⟩).sI ⟨Nat.le_refl f, Nat.le_add_right f 6⟩
  refine C_X1_begin (ob := ob) (by omega) (FigAt_Fr hfr0 hF0) (OrdAt_Fr hfr0 hO0) hn ?_
  intro σ2 hfr2 hv2 hz2
  have hfrA : Fr (fun a _ => f ≤ a ∧ a ≤ f + 6) σ σ2 := hfr0.trans (hfr2.mono fun a b z => by omega)
  have hpre : presF (sI (sI σ f 3 (cFloor σ b p net)) f 4 net) ob n (nI p) = (presF σ ob n (nI p)) := by
    funext o
    unfold presF
    rw [atB_row (hfr0.row (a := ob + o) fun b => by omega), liveB_row (hfr0.row (a := ob + o) fun b => by omega)]
  have hrk : ∀ k, rkB (sI (sI σ f 3 (cFloor σ b p net)) f 4 net) ob (presF σ ob n (nI p)) k = rkB σ ob (presF σ ob n (nI p)) k := by
    intro k
    induction k with
    | zero => rfl
    | succ k ih => rw [rkB, rkB, ih, hfr0.row (a := ob + k) fun b => by omega]
  rw [hpre] at hv2
  rw [hpre, hrk]
  have qN2 : gN σ2 = gN σ := hfrA.2.2.1
  simp (maxSteps := 2000000) (decide := true) only [wp_s e_X1_reckon_0, wp_s e_X1_reckon_1, wp_s e_X1_reckon_2, wp_s e_X1_reckon_3, wp_s e_X1_reckon_5, wp_s e_X1_reckon_8, wp_s e_X1_reckon_11, wp_s e_X1_reckon_12, wp_s e_X1_reckon_14, wp_s e_X1_reckon_17, wp_s e_X1_reckon_18, wp_s e_X1_reckon_19, wp_s e_X1_reckon_20, wp_s e_X1_reckon_23, wp_s e_X1_reckon_24, wp_s e_X1_reckon_27, wp_s e_X1_reckon_29, wp_s e_X1_reckon_30, wp_s e_X1_reckon_32, wp_s e_X1_reckon_34, wp_s e_X1_reckon_36, wp_s e_X1_reckon_39, wp_s e_X1_reckon_41, wp_s e_X1_reckon_43, wp_s e_X1_reckon_44, wp_s e_X1_reckon_45, wp_s e_X1_reckon_46, wp_s e_X1_reckon_47, wp_s e_X1_reckon_50, wp_s e_X1_reckon_51, wp_s e_X1_reckon_52, wp_s e_X1_reckon_53, wp_s e_X1_reckon_54, wp_s e_X1_reckon_56, wp_s e_X1_reckon_58, wp_s e_X1_reckon_61, wp_s e_X1_reckon_62, wp_s e_X1_reckon_63, wp_s e_X1_reckon_66, wp_s e_X1_reckon_69, wp_s e_X1_reckon_72, wp_s e_X1_reckon_75, ↓reduceIte, st_iadd, st_isub, st_imul, st_iand, st_ior, st_ishl, st_ishr, st_idiv, st_irem, st_ladd, st_lsub, st_lmul, st_lor, st_land, st_ldiv, st_lshl, st_lcmp, st_i2l, st_i2b, st_l2i, st_i2c, st_iconst, st_bipush, st_sipush, st_lconst, st_ldc2_w, st_ldc_w, st_ldcI, st_ldcS, st_iload, st_iload_n, st_lload, st_lload_n, st_aload, st_aload_n, st_istore, st_istore_n, st_lstore, st_lstore_n, st_astore, st_astore_n, st_iinc, st_dup, st_pop, st_dup2, st_ifCond, st_if_icmp, st_goto, st_getI, st_getL, st_getR, st_putI, st_putL, st_putR, st_putZ, st_sval, st_scod, st_baload, st_baloadS, st_alen, st_alenS, st_gets1, st_getsF, st_iaload, st_laload, st_aaload, st_iastore, st_lastore, st_bastoreB, st_bastoreZ, st_aastore, st_iret, st_zret, st_cret, st_bret, st_return_, st_areturn, st_invV, st_invVS, st_invS, st_invI, st_minI, st_maxI, st_obj, st_new, st_newarray, st_anewarray, st_multianewarray, st_table, st_lookup, pI_c, pL_c, pR_c, p1_i, p1_r, p1_n, iI_0, iI_s, iL_0, iL_s, iR_0, iR_s, rfV_s, kc_c, kl_c, cats_0, cats_i, cats_l, cats_r, rcv_c, rcvS_c, isRefA_c, cl_0, cl_1, cl_2, cl_3, cl_4, cl_5, cl_6, cl_7, set1_0, set1_1i, set1_1r, set1_1n, set1_s, set2_s, set2_1i, set2_1r, set2_1n, toL_s, toL_n, cnd, and_self, true_and, and_true, true_or, or_true, List.contains_nil, List.contains_cons, Bool.or_false, beq_iff_eq, Nat.reduceBEq, Nat.reduceEqDiff, Nat.reduceAdd, Nat.reduceLeDiff, Nat.reduceSub, Bool.false_eq_true, if_false, if_true, Nat.zero_le, Nat.add_zero, Nat.zero_add, Nat.le_refl, gN_sI, gN_sL, gN_sR, gR_sI, gR_sL, gR_sR, s0, u0, hb0, hbb0, hd0, hc, true_implies, false_implies, qN2]
  suffices hh : ∀ (j i : Nat), i + j = 9 → ∀ (σ1 : St), Fr (fun a _ => f ≤ a ∧ a ≤ f + 6) σ σ1 → gI σ1 f 3 = (cFloor σ b p net) → (∀ o, o < 6 → gI σ1 (f + 1) o = bI (presF σ ob n (nI p) o)) → gI σ1 (f + 2) = (ckF σ b ob p n net (cFloor σ b p net) (presF σ ob n (nI p)) (rkB σ ob (presF σ ob n (nI p)) 6) i (zrF (gI σ (f + 2)) 6, gI σ (f + 4), (zrF (gI σ (f + 3)) 6, net))).1 → gI σ1 (f + 4) = (ckF σ b ob p n net (cFloor σ b p net) (presF σ ob n (nI p)) (rkB σ ob (presF σ ob n (nI p)) 6) i (zrF (gI σ (f + 2)) 6, gI σ (f + 4), (zrF (gI σ (f + 3)) 6, net))).2.1 → gI σ1 (f + 3) = (ckF σ b ob p n net (cFloor σ b p net) (presF σ ob n (nI p)) (rkB σ ob (presF σ ob n (nI p)) 6) i (zrF (gI σ (f + 2)) 6, gI σ (f + 4), (zrF (gI σ (f + 3)) 6, net))).2.2.1 → gI σ1 f 4 = (ckF σ b ob p n net (cFloor σ b p net) (presF σ ob n (nI p)) (rkB σ ob (presF σ ob n (nI p)) 6) i (zrF (gI σ (f + 2)) 6, gI σ (f + 4), (zrF (gI σ (f + 3)) 6, net))).2.2.2 → X d q_X1_reckon (gN σ) 0 0 Rt 32 0 0 [.ref f, .ref b, .ref oa, .int (nI p), .int net, .int (rkB σ ob (presF σ ob n (nI p)) 6), .int (nI (i + 1))] [] σ1 by
    refine hh 9 0 (by omega) σ2 hfrA ?_ (fun o ho => (hv2 o ho).1) ?_ ?_ ?_ ?_
    · exact ((hfr2.I (by omega)).trans (gI_ne (Or.inr (by decide)))).trans gI_same
    · funext o
      show _ = zrF (gI σ (f + 2)) 6 o
      rw [zrF_at]
      by_cases ho : o < 6
      · rw [if_pos ho]; exact (hv2 o ho).2.1
      · rw [if_neg ho, (hz2 o (by omega)).1, gI_row_ne (by omega), gI_row_ne (by omega)]
    · show _ = gI σ (f + 4)
      rw [hfr2.row (fun b => by omega), gI_row_ne (by omega), gI_row_ne (by omega)]
    · funext o
      show _ = zrF (gI σ (f + 3)) 6 o
      rw [zrF_at]
      by_cases ho : o < 6
      · rw [if_pos ho]; exact (hv2 o ho).2.2
      · rw [if_neg ho, (hz2 o (by omega)).2, gI_row_ne (by omega), gI_row_ne (by omega)]
    · exact (hfr2.I (by omega)).trans gI_same
  intro j
  induction j with
  | zero =>
    intro i hi σ1 hfr h3 h1 h2 h4 hG hL
    obtain rfl : i = 9 := by omega
    refine X_wp [32] ck_X1_reckon 44 ?_
    simp (maxSteps := 2000000) (decide := true) only [wp_s e_X1_reckon_0, wp_s e_X1_reckon_1, wp_s e_X1_reckon_2, wp_s e_X1_reckon_3, wp_s e_X1_reckon_5, wp_s e_X1_reckon_8, wp_s e_X1_reckon_11, wp_s e_X1_reckon_12, wp_s e_X1_reckon_14, wp_s e_X1_reckon_17, wp_s e_X1_reckon_18, wp_s e_X1_reckon_19, wp_s e_X1_reckon_20, wp_s e_X1_reckon_23, wp_s e_X1_reckon_24, wp_s e_X1_reckon_27, wp_s e_X1_reckon_29, wp_s e_X1_reckon_30, wp_s e_X1_reckon_32, wp_s e_X1_reckon_34, wp_s e_X1_reckon_36, wp_s e_X1_reckon_39, wp_s e_X1_reckon_41, wp_s e_X1_reckon_43, wp_s e_X1_reckon_44, wp_s e_X1_reckon_45, wp_s e_X1_reckon_46, wp_s e_X1_reckon_47, wp_s e_X1_reckon_50, wp_s e_X1_reckon_51, wp_s e_X1_reckon_52, wp_s e_X1_reckon_53, wp_s e_X1_reckon_54, wp_s e_X1_reckon_56, wp_s e_X1_reckon_58, wp_s e_X1_reckon_61, wp_s e_X1_reckon_62, wp_s e_X1_reckon_63, wp_s e_X1_reckon_66, wp_s e_X1_reckon_69, wp_s e_X1_reckon_72, wp_s e_X1_reckon_75, ↓reduceIte, st_iadd, st_isub, st_imul, st_iand, st_ior, st_ishl, st_ishr, st_idiv, st_irem, st_ladd, st_lsub, st_lmul, st_lor, st_land, st_ldiv, st_lshl, st_lcmp, st_i2l, st_i2b, st_l2i, st_i2c, st_iconst, st_bipush, st_sipush, st_lconst, st_ldc2_w, st_ldc_w, st_ldcI, st_ldcS, st_iload, st_iload_n, st_lload, st_lload_n, st_aload, st_aload_n, st_istore, st_istore_n, st_lstore, st_lstore_n, st_astore, st_astore_n, st_iinc, st_dup, st_pop, st_dup2, st_ifCond, st_if_icmp, st_goto, st_getI, st_getL, st_getR, st_putI, st_putL, st_putR, st_putZ, st_sval, st_scod, st_baload, st_baloadS, st_alen, st_alenS, st_gets1, st_getsF, st_iaload, st_laload, st_aaload, st_iastore, st_lastore, st_bastoreB, st_bastoreZ, st_aastore, st_iret, st_zret, st_cret, st_bret, st_return_, st_areturn, st_invV, st_invVS, st_invS, st_invI, st_minI, st_maxI, st_obj, st_new, st_newarray, st_anewarray, st_multianewarray, st_table, st_lookup, pI_c, pL_c, pR_c, p1_i, p1_r, p1_n, iI_0, iI_s, iL_0, iL_s, iR_0, iR_s, rfV_s, kc_c, kl_c, cats_0, cats_i, cats_l, cats_r, rcv_c, rcvS_c, isRefA_c, cl_0, cl_1, cl_2, cl_3, cl_4, cl_5, cl_6, cl_7, set1_0, set1_1i, set1_1r, set1_1n, set1_s, set2_s, set2_1i, set2_1r, set2_1n, toL_s, toL_n, cnd, and_self, true_and, and_true, true_or, or_true, List.contains_nil, List.contains_cons, Bool.or_false, beq_iff_eq, Nat.reduceBEq, Nat.reduceEqDiff, Nat.reduceAdd, Nat.reduceLeDiff, Nat.reduceSub, Bool.false_eq_true, if_false, if_true, Nat.zero_le, Nat.add_zero, Nat.zero_add, Nat.le_refl, gN_sI, gN_sL, gN_sR, gR_sI, gR_sL, gR_sR, s0, u0, hb0, hbb0, hd0, hc, true_implies, false_implies, nI_ltI]
    exact h σ1 hfr h3 h1 h2 hG hL
  | succ j ih =>
    intro i hi σ1 hfr h3 h1 h2 h4 hG hL
    have hi9 : ¬ nI 9 < nI (i + 1) := by rw [nI_ltI (by omega) (by omega)]; omega
    have hr : ∀ a, 25 ≤ a → gI σ1 a = gI σ a := fun a ha => hfr.row (fun b => by omega)
    have ih1 := ih (i + 1) (by omega)
    rw [ckF] at ih1
    have qN : gN σ1 = gN σ := hfr.2.2.1
    have qc : gI σ1 b 5 = nI n := by rw [hr b (by omega)]; exact hc
    have hi9' : ¬ (9 : Int32) < nI (i + 1) := hi9
    refine X_wp [32] ck_X1_reckon 44 ?_
    simp (maxSteps := 2000000) (decide := true) only [wp_s e_X1_reckon_0, wp_s e_X1_reckon_1, wp_s e_X1_reckon_2, wp_s e_X1_reckon_3, wp_s e_X1_reckon_5, wp_s e_X1_reckon_8, wp_s e_X1_reckon_11, wp_s e_X1_reckon_12, wp_s e_X1_reckon_14, wp_s e_X1_reckon_17, wp_s e_X1_reckon_18, wp_s e_X1_reckon_19, wp_s e_X1_reckon_20, wp_s e_X1_reckon_23, wp_s e_X1_reckon_24, wp_s e_X1_reckon_27, wp_s e_X1_reckon_29, wp_s e_X1_reckon_30, wp_s e_X1_reckon_32, wp_s e_X1_reckon_34, wp_s e_X1_reckon_36, wp_s e_X1_reckon_39, wp_s e_X1_reckon_41, wp_s e_X1_reckon_43, wp_s e_X1_reckon_44, wp_s e_X1_reckon_45, wp_s e_X1_reckon_46, wp_s e_X1_reckon_47, wp_s e_X1_reckon_50, wp_s e_X1_reckon_51, wp_s e_X1_reckon_52, wp_s e_X1_reckon_53, wp_s e_X1_reckon_54, wp_s e_X1_reckon_56, wp_s e_X1_reckon_58, wp_s e_X1_reckon_61, wp_s e_X1_reckon_62, wp_s e_X1_reckon_63, wp_s e_X1_reckon_66, wp_s e_X1_reckon_69, wp_s e_X1_reckon_72, wp_s e_X1_reckon_75, ↓reduceIte, st_iadd, st_isub, st_imul, st_iand, st_ior, st_ishl, st_ishr, st_idiv, st_irem, st_ladd, st_lsub, st_lmul, st_lor, st_land, st_ldiv, st_lshl, st_lcmp, st_i2l, st_i2b, st_l2i, st_i2c, st_iconst, st_bipush, st_sipush, st_lconst, st_ldc2_w, st_ldc_w, st_ldcI, st_ldcS, st_iload, st_iload_n, st_lload, st_lload_n, st_aload, st_aload_n, st_istore, st_istore_n, st_lstore, st_lstore_n, st_astore, st_astore_n, st_iinc, st_dup, st_pop, st_dup2, st_ifCond, st_if_icmp, st_goto, st_getI, st_getL, st_getR, st_putI, st_putL, st_putR, st_putZ, st_sval, st_scod, st_baload, st_baloadS, st_alen, st_alenS, st_gets1, st_getsF, st_iaload, st_laload, st_aaload, st_iastore, st_lastore, st_bastoreB, st_bastoreZ, st_aastore, st_iret, st_zret, st_cret, st_bret, st_return_, st_areturn, st_invV, st_invVS, st_invS, st_invI, st_minI, st_maxI, st_obj, st_new, st_newarray, st_anewarray, st_multianewarray, st_table, st_lookup, pI_c, pL_c, pR_c, p1_i, p1_r, p1_n, iI_0, iI_s, iL_0, iL_s, iR_0, iR_s, rfV_s, kc_c, kl_c, cats_0, cats_i, cats_l, cats_r, rcv_c, rcvS_c, isRefA_c, cl_0, cl_1, cl_2, cl_3, cl_4, cl_5, cl_6, cl_7, set1_0, set1_1i, set1_1r, set1_1n, set1_s, set2_s, set2_1i, set2_1r, set2_1n, toL_s, toL_n, cnd, and_self, true_and, and_true, true_or, or_true, List.contains_nil, List.contains_cons, Bool.or_false, beq_iff_eq, Nat.reduceBEq, Nat.reduceEqDiff, Nat.reduceAdd, Nat.reduceLeDiff, Nat.reduceSub, Bool.false_eq_true, if_false, if_true, Nat.zero_le, Nat.add_zero, Nat.zero_add, Nat.le_refl, gN_sI, gN_sL, gN_sR, gR_sI, gR_sL, gR_sR, s0, u0, hb0, hbb0, hd0, hc, true_implies, false_implies, qN, qc, nI_1, hi9, hi9']
    refine ⟨fun c => ?_, fun c => ?_⟩
    · rw [ckS, if_neg c] at ih1
      exact ih1 σ1 hfr h3 h1 h2 h4 hG hL
    · have c := Decidable.of_not_not c
      rw [ckS, if_pos c] at ih1
      refine C_X1_beginRank (ob := ob) (n := n) (pr := presF σ ob n (nI p)) (by omega) (FigAt_Fr hfr hF0) (DeskAt_Fr hfr hD0) (OrdAt_Fr hfr hO0) hp hn qc h1 ?_ ?_
      · intro o ho _ h31
        rw [hr (ob + o) (by omega)] at h31 ⊢
        obtain ⟨a, m, ha, hm, hin, hT⟩ := hw o ho h31
        exact ⟨a, m, ha, hm, by rw [hr b (by omega)]; exact hin, TabAt_rows hfr.1 qN (hr _ (by omega)) hT⟩
      intro σ3 hfr3 e8 e5 e2 e4
      have hfr13 : Fr (fun a _ => f ≤ a ∧ a ≤ f + 6) σ σ3 := hfr.trans (hfr3.mono fun a b z => by omega)
      have hr3 : ∀ a, 25 ≤ a → gI σ3 a = gI σ a := fun a ha => hfr13.row (fun b => by omega)
      have hMM : (fun o => presF σ ob n (nI p) o && decide (gI σ1 (ob + o) 0 = nI (i + 1))) = cM σ ob (presF σ ob n (nI p)) (nI (i + 1)) := cM_hi hr hob
      have hcn := cN_le (cM σ ob (presF σ ob n (nI p)) (nI (i + 1))) n
      rw [hMM] at e8 e5 e2 e4
      rw [cWant_hi hr hob (by omega), hr (b + 13 + p) (by omega), h3, hL, h2] at e2
      rw [cOwn_hi hr hob, hr (b + 13 + p) (by omega), h3, h4] at e4
      have qN3 : gN σ3 = gN σ := hfr13.2.2.1
      have q8 : gI σ3 b 8 = gI σ b 8 := by rw [hr3 b (by omega)]
      simp (maxSteps := 2000000) (decide := true) only [wp_s e_X1_reckon_0, wp_s e_X1_reckon_1, wp_s e_X1_reckon_2, wp_s e_X1_reckon_3, wp_s e_X1_reckon_5, wp_s e_X1_reckon_8, wp_s e_X1_reckon_11, wp_s e_X1_reckon_12, wp_s e_X1_reckon_14, wp_s e_X1_reckon_17, wp_s e_X1_reckon_18, wp_s e_X1_reckon_19, wp_s e_X1_reckon_20, wp_s e_X1_reckon_23, wp_s e_X1_reckon_24, wp_s e_X1_reckon_27, wp_s e_X1_reckon_29, wp_s e_X1_reckon_30, wp_s e_X1_reckon_32, wp_s e_X1_reckon_34, wp_s e_X1_reckon_36, wp_s e_X1_reckon_39, wp_s e_X1_reckon_41, wp_s e_X1_reckon_43, wp_s e_X1_reckon_44, wp_s e_X1_reckon_45, wp_s e_X1_reckon_46, wp_s e_X1_reckon_47, wp_s e_X1_reckon_50, wp_s e_X1_reckon_51, wp_s e_X1_reckon_52, wp_s e_X1_reckon_53, wp_s e_X1_reckon_54, wp_s e_X1_reckon_56, wp_s e_X1_reckon_58, wp_s e_X1_reckon_61, wp_s e_X1_reckon_62, wp_s e_X1_reckon_63, wp_s e_X1_reckon_66, wp_s e_X1_reckon_69, wp_s e_X1_reckon_72, wp_s e_X1_reckon_75, ↓reduceIte, st_iadd, st_isub, st_imul, st_iand, st_ior, st_ishl, st_ishr, st_idiv, st_irem, st_ladd, st_lsub, st_lmul, st_lor, st_land, st_ldiv, st_lshl, st_lcmp, st_i2l, st_i2b, st_l2i, st_i2c, st_iconst, st_bipush, st_sipush, st_lconst, st_ldc2_w, st_ldc_w, st_ldcI, st_ldcS, st_iload, st_iload_n, st_lload, st_lload_n, st_aload, st_aload_n, st_istore, st_istore_n, st_lstore, st_lstore_n, st_astore, st_astore_n, st_iinc, st_dup, st_pop, st_dup2, st_ifCond, st_if_icmp, st_goto, st_getI, st_getL, st_getR, st_putI, st_putL, st_putR, st_putZ, st_sval, st_scod, st_baload, st_baloadS, st_alen, st_alenS, st_gets1, st_getsF, st_iaload, st_laload, st_aaload, st_iastore, st_lastore, st_bastoreB, st_bastoreZ, st_aastore, st_iret, st_zret, st_cret, st_bret, st_return_, st_areturn, st_invV, st_invVS, st_invS, st_invI, st_minI, st_maxI, st_obj, st_new, st_newarray, st_anewarray, st_multianewarray, st_table, st_lookup, pI_c, pL_c, pR_c, p1_i, p1_r, p1_n, iI_0, iI_s, iL_0, iL_s, iR_0, iR_s, rfV_s, kc_c, kl_c, cats_0, cats_i, cats_l, cats_r, rcv_c, rcvS_c, isRefA_c, cl_0, cl_1, cl_2, cl_3, cl_4, cl_5, cl_6, cl_7, set1_0, set1_1i, set1_1r, set1_1n, set1_s, set2_s, set2_1i, set2_1r, set2_1n, toL_s, toL_n, cnd, and_self, true_and, and_true, true_or, or_true, List.contains_nil, List.contains_cons, Bool.or_false, beq_iff_eq, Nat.reduceBEq, Nat.reduceEqDiff, Nat.reduceAdd, Nat.reduceLeDiff, Nat.reduceSub, Bool.false_eq_true, if_false, if_true, Nat.zero_le, Nat.add_zero, Nat.zero_add, Nat.le_refl, gN_sI, gN_sL, gN_sR, gR_sI, gR_sL, gR_sR, s0, u0, hb0, hbb0, hd0, hc, true_implies, false_implies, qN3, q8]
      refine C_X1_shareRank (mc := cN (cM σ ob (presF σ ob n (nI p)) (nI (i + 1))) n) (gm := grF (cM σ ob (presF σ ob n (nI p)) (nI (i + 1))) n) (by omega) (FigAt_Fr hfr13 hF0) (by omega) e8 (fun k hk => ⟨by have := (grF_lt _ n k hk).1; omega, e5 k hk⟩) ?_
      intro σ4 hfr4 g3 g4
      have hfr14 : Fr (fun a _ => f ≤ a ∧ a ≤ f + 6) σ σ4 := hfr13.trans (hfr4.mono fun a b z => by omega)
      have hr4 : ∀ a, 25 ≤ a → gI σ4 a = gI σ a := fun a ha => hfr14.row (fun b => by omega)
      have qN4 : gN σ4 = gN σ := hfr14.2.2.1
      have e3' : gI σ3 (f + 3) = gI σ1 (f + 3) := hfr3.row (fun b => by omega)
      have e4' : gI σ3 f 4 = gI σ1 f 4 := hfr3.I (by omega)
      rw [e2, e4, e3', e4', hG, hL] at g3 g4
      simp (maxSteps := 2000000) (decide := true) only [wp_s e_X1_reckon_0, wp_s e_X1_reckon_1, wp_s e_X1_reckon_2, wp_s e_X1_reckon_3, wp_s e_X1_reckon_5, wp_s e_X1_reckon_8, wp_s e_X1_reckon_11, wp_s e_X1_reckon_12, wp_s e_X1_reckon_14, wp_s e_X1_reckon_17, wp_s e_X1_reckon_18, wp_s e_X1_reckon_19, wp_s e_X1_reckon_20, wp_s e_X1_reckon_23, wp_s e_X1_reckon_24, wp_s e_X1_reckon_27, wp_s e_X1_reckon_29, wp_s e_X1_reckon_30, wp_s e_X1_reckon_32, wp_s e_X1_reckon_34, wp_s e_X1_reckon_36, wp_s e_X1_reckon_39, wp_s e_X1_reckon_41, wp_s e_X1_reckon_43, wp_s e_X1_reckon_44, wp_s e_X1_reckon_45, wp_s e_X1_reckon_46, wp_s e_X1_reckon_47, wp_s e_X1_reckon_50, wp_s e_X1_reckon_51, wp_s e_X1_reckon_52, wp_s e_X1_reckon_53, wp_s e_X1_reckon_54, wp_s e_X1_reckon_56, wp_s e_X1_reckon_58, wp_s e_X1_reckon_61, wp_s e_X1_reckon_62, wp_s e_X1_reckon_63, wp_s e_X1_reckon_66, wp_s e_X1_reckon_69, wp_s e_X1_reckon_72, wp_s e_X1_reckon_75, ↓reduceIte, st_iadd, st_isub, st_imul, st_iand, st_ior, st_ishl, st_ishr, st_idiv, st_irem, st_ladd, st_lsub, st_lmul, st_lor, st_land, st_ldiv, st_lshl, st_lcmp, st_i2l, st_i2b, st_l2i, st_i2c, st_iconst, st_bipush, st_sipush, st_lconst, st_ldc2_w, st_ldc_w, st_ldcI, st_ldcS, st_iload, st_iload_n, st_lload, st_lload_n, st_aload, st_aload_n, st_istore, st_istore_n, st_lstore, st_lstore_n, st_astore, st_astore_n, st_iinc, st_dup, st_pop, st_dup2, st_ifCond, st_if_icmp, st_goto, st_getI, st_getL, st_getR, st_putI, st_putL, st_putR, st_putZ, st_sval, st_scod, st_baload, st_baloadS, st_alen, st_alenS, st_gets1, st_getsF, st_iaload, st_laload, st_aaload, st_iastore, st_lastore, st_bastoreB, st_bastoreZ, st_aastore, st_iret, st_zret, st_cret, st_bret, st_return_, st_areturn, st_invV, st_invVS, st_invS, st_invI, st_minI, st_maxI, st_obj, st_new, st_newarray, st_anewarray, st_multianewarray, st_table, st_lookup, pI_c, pL_c, pR_c, p1_i, p1_r, p1_n, iI_0, iI_s, iL_0, iL_s, iR_0, iR_s, rfV_s, kc_c, kl_c, cats_0, cats_i, cats_l, cats_r, rcv_c, rcvS_c, isRefA_c, cl_0, cl_1, cl_2, cl_3, cl_4, cl_5, cl_6, cl_7, set1_0, set1_1i, set1_1r, set1_1n, set1_s, set2_s, set2_1i, set2_1r, set2_1n, toL_s, toL_n, cnd, and_self, true_and, and_true, true_or, or_true, List.contains_nil, List.contains_cons, Bool.or_false, beq_iff_eq, Nat.reduceBEq, Nat.reduceEqDiff, Nat.reduceAdd, Nat.reduceLeDiff, Nat.reduceSub, Bool.false_eq_true, if_false, if_true, Nat.zero_le, Nat.add_zero, Nat.zero_add, Nat.le_refl, gN_sI, gN_sL, gN_sR, gR_sI, gR_sL, gR_sR, s0, u0, hb0, hbb0, hd0, hc, true_implies, false_implies, qN4, nI_1]
      refine ih1 σ4 hfr14 ?_ ?_ ?_ ?_ ?_ ?_
      · exact ((hfr4.I (by omega)).trans (hfr3.I (by omega))).trans h3
      · intro o ho
        rw [hfr4.row (a := f + 1) (fun b => by omega), hfr3.row (a := f + 1) (fun b => by omega)]
        exact h1 o ho
      · rw [hfr4.row (fun b => by omega)]; exact e2
      · rw [hfr4.row (fun b => by omega)]; exact e4
      · exact g3
      · exact g4
end FIG6
