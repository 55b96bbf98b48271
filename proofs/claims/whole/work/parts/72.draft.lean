/-! tokens of the reference -/
theorem byte_n {b : Int32} (h : b.toInt8.toInt32 = b) : ∃ n, n < 256 ∧ b = (nI n).toInt8.toInt32 := by
  have hm : 0 ≤ b.toInt % 256 ∧ b.toInt % 256 < 256 := ⟨Int.emod_nonneg _ (by decide), Int.emod_lt_of_pos _ (by decide)⟩
  refine ⟨(b.toInt % 256).toNat, by omega, ?_⟩
  have e : b.toInt8 = (nI (b.toInt % 256).toNat).toInt8 := by
    apply Int8.toInt_inj.mp
    rw [Int32.toInt_toInt8, Int32.toInt_toInt8, nI_toInt (by omega), Int.toNat_of_nonneg hm.1]
    exact (Int.emod_bmod b.toInt 256).symm
  rw [← e]
  exact h.symm
theorem byte_all : ∀ n, n < 256 → (((nI n).toInt8.toInt32 &&& 255 = 32) ↔ (nI n).toInt8.toInt32 = 32) ∧ ((97 ≤ (nI n).toInt8.toInt32 &&& 255 ∧ (nI n).toInt8.toInt32 &&& 255 ≤ 122) ↔ (97 ≤ (nI n).toInt8.toInt32 ∧ (nI n).toInt8.toInt32 ≤ 122)) ∧ ((48 ≤ (nI n).toInt8.toInt32 &&& 255 ∧ (nI n).toInt8.toInt32 &&& 255 ≤ 57) ↔ (48 ≤ (nI n).toInt8.toInt32 ∧ (nI n).toInt8.toInt32 ≤ 57)) ∧ (((nI n).toInt8.toInt32 &&& 255 = 59) ↔ (nI n).toInt8.toInt32 = 59) ∧ (48 ≤ (nI n).toInt8.toInt32 → (nI n).toInt8.toInt32 &&& 255 = (nI n).toInt8.toInt32) ∧ ¬ (nI n).toInt8.toInt32 &&& 255 = -1 := by decide +kernel
theorem byte_l {b : Int32} (h : b.toInt8.toInt32 = b) : (b &&& 255 = 32 ↔ b = 32) ∧ ((97 ≤ b &&& 255 ∧ b &&& 255 ≤ 122) ↔ (97 ≤ b ∧ b ≤ 122)) ∧ ((48 ≤ b &&& 255 ∧ b &&& 255 ≤ 57) ↔ (48 ≤ b ∧ b ≤ 57)) ∧ (b &&& 255 = 59 ↔ b = 59) ∧ (48 ≤ b → b &&& 255 = b) ∧ ¬ b &&& 255 = -1 := by
  obtain ⟨n, hn, rfl⟩ := byte_n h
  exact byte_all n hn
section RTOK
variable {S L S' L' : Nat → Nat → Prop} {σ σ1 σ2 : St} {d N i s e k n : Nat} {Rt : Option Value → St → Prop} {f : Nat → Int32} {w v : Int64} {t : Tk} {lo hi x : Int32}
def btF (f : Nat → Int32) (N k : Nat) : Int32 := if k < N then f k &&& 255 else -1
/-- the bytes are bytes -/
def Byt (f : Nat → Int32) (N : Nat) : Prop := ∀ j, j < N → (f j).toInt8.toInt32 = f j
theorem bt_32 (h : Byt f N) : (btF f N k = 32) ↔ (k < N ∧ isB (f k) = true) := by
  unfold btF isB
  by_cases hk : k < N
  · rw [if_pos hk, (byte_l (h k hk)).1, decide_eq_true_eq]
    exact ⟨fun z => ⟨hk, z⟩, fun z => z.2⟩
  · rw [if_neg hk]
    exact ⟨fun z => absurd z (by decide), fun z => absurd z.1 hk⟩
theorem bt_L (h : Byt f N) : decide (97 ≤ btF f N k ∧ btF f N k ≤ 122) = (decide (k < N) && isL (f k)) := by
  unfold btF isL
  by_cases hk : k < N
  · rw [if_pos hk, decide_eq_true hk, Bool.true_and]
    exact decide_eq_decide.mpr (byte_l (h k hk)).2.1
  · rw [if_neg hk, decide_eq_false hk]
    rfl
theorem bt_D (h : Byt f N) : decide (48 ≤ btF f N k ∧ btF f N k ≤ 57) = (decide (k < N) && isD (f k)) := by
  unfold btF isD
  by_cases hk : k < N
  · rw [if_pos hk, decide_eq_true hk, Bool.true_and]
    exact decide_eq_decide.mpr (byte_l (h k hk)).2.2.1
  · rw [if_neg hk, decide_eq_false hk]
    rfl
theorem bt_v (h : Byt f N) (hk : k < N) (h48 : 48 ≤ f k) : btF f N k = f k := by
  unfold btF
  rw [if_pos hk]
  exact (byte_l (h k hk)).2.2.2.2.1 h48
set_option maxRecDepth 10000 in
theorem C_byteAt (hR : RefAt σ) (hl : gI σ 89 5 = nI N) (hN : N ≤ 500) (hk : k ≤ 1000) (h : Rt (some (.int (btF (gI σ 90) N k))) σ) : Con d q_X10_byteAt 0 0 [.ref 89, .int (nI k)] σ Rt := by
  obtain ⟨hN, rtp, rx, rrd, rnm, rtk, row, rtm, rpd, rnt, rtn, rst, rwt, rgt, rlg, rlw, rlt⟩ := hR
  have h89 : 89 < gN σ := by omega
  have h90 : 90 < gN σ := by omega
  have h91 : 91 < gN σ := by omega
  have h92 : 92 < gN σ := by omega
  have h93 : 93 < gN σ := by omega
  have h94 : 94 < gN σ := by omega
  have h95 : 95 < gN σ := by omega
  have h96 : 96 < gN σ := by omega
  have h97 : 97 < gN σ := by omega
  have h98 : 98 < gN σ := by omega
  have h99 : 99 < gN σ := by omega
  have h100 : 100 < gN σ := by omega
  have h101 : 101 < gN σ := by omega
  have h102 : 102 < gN σ := by omega
  have h103 : 103 < gN σ := by omega
  have h104 : 104 < gN σ := by omega
  have h105 : 105 < gN σ := by omega
  unfold btF at h
  by_cases hkN : k < N
  · have hlt : ¬ nI N ≤ nI k := nI_ge hkN (by omega)
    have kk : (nI k).toNatClampNeg = k := nI_clamp (by omega)
    have vk : vp_in (nI k) 500 := vp_in_nI (by omega) (by omega)
    rw [if_pos hkN] at h
    refine Con_of_X (ls := [.ref 89, .int (nI k)]) rfl (Nat.le_of_ble_eq_true rfl) rfl ?_
    refine X_wp [] ck_X10_byteAt 15 ?_
    simp (maxSteps := 2000000) (decide := true) only [wp_s e_X10_byteAt_0, wp_s e_X10_byteAt_1, wp_s e_X10_byteAt_2, wp_s e_X10_byteAt_5, wp_s e_X10_byteAt_8, wp_s e_X10_byteAt_9, wp_s e_X10_byteAt_12, wp_s e_X10_byteAt_13, wp_s e_X10_byteAt_14, wp_s e_X10_byteAt_17, wp_s e_X10_byteAt_18, wp_s e_X10_byteAt_21, wp_s e_X10_byteAt_22, ↓reduceIte, st_iadd, st_isub, st_imul, st_iand, st_ior, st_ishl, st_ishr, st_idiv, st_irem, st_ladd, st_lsub, st_lmul, st_lor, st_land, st_ldiv, st_lshl, st_lcmp, st_i2l, st_i2b, st_l2i, st_i2c, st_iconst, st_bipush, st_sipush, st_lconst, st_ldc2_w, st_ldc_w, st_ldcI, st_ldcS, st_iload, st_iload_n, st_lload, st_lload_n, st_aload, st_aload_n, st_istore, st_istore_n, st_lstore, st_lstore_n, st_astore, st_astore_n, st_iinc, st_dup, st_pop, st_dup2, st_ifCond, st_if_icmp, st_goto, st_getI, st_getL, st_getR, st_putI, st_putL, st_putR, st_putZ, st_sval, st_scod, st_baload, st_baloadS, st_alen, st_alenS, st_gets1, st_getsF, st_iaload, st_laload, st_aaload, st_iastore, st_lastore, st_bastoreB, st_bastoreZ, st_aastore, st_iret, st_zret, st_cret, st_bret, st_return_, st_areturn, st_invV, st_invVS, st_invS, st_invI, st_minI, st_maxI, st_obj, st_new, st_newarray, st_anewarray, st_multianewarray, st_table, st_lookup, pI_c, pL_c, pR_c, p1_i, p1_r, p1_n, iI_0, iI_s, iL_0, iL_s, iR_0, iR_s, rfV_s, kc_c, kl_c, cats_0, cats_i, cats_l, cats_r, rcv_c, rcvS_c, isRefA_c, cl_0, cl_1, cl_2, cl_3, cl_4, cl_5, cl_6, cl_7, set1_0, set1_1i, set1_1r, set1_1n, set1_s, set2_s, set2_1i, set2_1r, set2_1n, toL_s, toL_n, cnd, and_self, true_and, and_true, true_or, or_true, List.contains_nil, List.contains_cons, Bool.or_false, beq_iff_eq, Nat.reduceBEq, Nat.reduceEqDiff, Nat.reduceAdd, Nat.reduceLeDiff, Nat.reduceSub, Bool.false_eq_true, if_false, if_true, Nat.zero_le, Nat.add_zero, Nat.zero_add, Nat.le_refl, gN_sI, gN_sL, gN_sR, gR_sI, gR_sL, gR_sR, rtp, rx, rrd, rnm, rtk, row, rtm, rpd, rnt, rtn, rst, rwt, rgt, rlg, rlw, rlt, sh_89, sh_90, sh_91, sh_92, sh_93, sh_94, sh_95, sh_96, sh_97, sh_98, sh_99, sh_100, sh_101, sh_102, sh_103, sh_104, sh_105, h89, h90, h91, h92, h93, h94, h95, h96, h97, h98, h99, h100, h101, h102, h103, h104, h105, nI_add, vx0, vx1, vx2, vx3, vx4, vx5, cx0, cx1, cx2, cx3, cx4, cx5, hl, hlt, kk, vk, true_implies, false_implies, bI_t, bI_f, false_and, and_false, if_false, if_true, not_true_eq_false, not_false_eq_true]
    exact h
  · have hge : nI N ≤ nI k := nI_le (by omega) (by omega)
    rw [if_neg hkN] at h
    refine Con_of_X (ls := [.ref 89, .int (nI k)]) rfl (Nat.le_of_ble_eq_true rfl) rfl ?_
    refine X_wp [] ck_X10_byteAt 15 ?_
    simp (maxSteps := 2000000) (decide := true) only [wp_s e_X10_byteAt_0, wp_s e_X10_byteAt_1, wp_s e_X10_byteAt_2, wp_s e_X10_byteAt_5, wp_s e_X10_byteAt_8, wp_s e_X10_byteAt_9, wp_s e_X10_byteAt_12, wp_s e_X10_byteAt_13, wp_s e_X10_byteAt_14, wp_s e_X10_byteAt_17, wp_s e_X10_byteAt_18, wp_s e_X10_byteAt_21, wp_s e_X10_byteAt_22, ↓reduceIte, st_iadd, st_isub, st_imul, st_iand, st_ior, st_ishl, st_ishr, st_idiv, st_irem, st_ladd, st_lsub, st_lmul, st_lor, st_land, st_ldiv, st_lshl, st_lcmp, st_i2l, st_i2b, st_l2i, st_i2c, st_iconst, st_bipush, st_sipush, st_lconst, st_ldc2_w, st_ldc_w, st_ldcI, st_ldcS, st_iload, st_iload_n, st_lload, st_lload_n, st_aload, st_aload_n, st_istore, st_istore_n, st_lstore, st_lstore_n, st_astore, st_astore_n, st_iinc, st_dup, st_pop, st_dup2, st_ifCond, st_if_icmp, st_goto, st_getI, st_getL, st_getR, st_putI, st_putL, st_putR, st_putZ, st_sval, st_scod, st_baload, st_baloadS, st_alen, st_alenS, st_gets1, st_getsF, st_iaload, st_laload, st_aaload, st_iastore, st_lastore, st_bastoreB, st_bastoreZ, st_aastore, st_iret, st_zret, st_cret, st_bret, st_return_, st_areturn, st_invV, st_invVS, st_invS, st_invI, st_minI, st_maxI, st_obj, st_new, st_newarray, st_anewarray, st_multianewarray, st_table, st_lookup, pI_c, pL_c, pR_c, p1_i, p1_r, p1_n, iI_0, iI_s, iL_0, iL_s, iR_0, iR_s, rfV_s, kc_c, kl_c, cats_0, cats_i, cats_l, cats_r, rcv_c, rcvS_c, isRefA_c, cl_0, cl_1, cl_2, cl_3, cl_4, cl_5, cl_6, cl_7, set1_0, set1_1i, set1_1r, set1_1n, set1_s, set2_s, set2_1i, set2_1r, set2_1n, toL_s, toL_n, cnd, and_self, true_and, and_true, true_or, or_true, List.contains_nil, List.contains_cons, Bool.or_false, beq_iff_eq, Nat.reduceBEq, Nat.reduceEqDiff, Nat.reduceAdd, Nat.reduceLeDiff, Nat.reduceSub, Bool.false_eq_true, if_false, if_true, Nat.zero_le, Nat.add_zero, Nat.zero_add, Nat.le_refl, gN_sI, gN_sL, gN_sR, gR_sI, gR_sL, gR_sR, rtp, rx, rrd, rnm, rtk, row, rtm, rpd, rnt, rtn, rst, rwt, rgt, rlg, rlw, rlt, sh_89, sh_90, sh_91, sh_92, sh_93, sh_94, sh_95, sh_96, sh_97, sh_98, sh_99, sh_100, sh_101, sh_102, sh_103, sh_104, sh_105, h89, h90, h91, h92, h93, h94, h95, h96, h97, h98, h99, h100, h101, h102, h103, h104, h105, nI_add, vx0, vx1, vx2, vx3, vx4, vx5, cx0, cx1, cx2, cx3, cx4, cx5, hl, hge, true_implies, false_implies, bI_t, bI_f, false_and, and_false, if_false, if_true, not_true_eq_false, not_false_eq_true]
    exact h
end RTOK
