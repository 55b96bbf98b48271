def restF (σ : St) (k : Nat) : Int32 := if gI σ k 2 = 0 then 999999 else gI σ k 2 - gI σ k 7
set_option maxRecDepth 10000 in
theorem C_X3_rest {d k : Nat} {σ : St} {Rt : Option Value → St → Prop} (hk : sh k = (0, 3)) (hN : k < gN σ) (h : Rt (some (.int (restF σ k))) σ) : Con d q_X3_rest 0 0 [.ref k] σ Rt := by
  refine Con_of_X (ls := [.ref k]) rfl (by decide) rfl ?_
  refine X_wp [] ck_X3_rest 20 ?_
  unfold restF at h
  simp only [wp_s e_X3_rest_0, wp_s e_X3_rest_1, wp_s e_X3_rest_4, wp_s e_X3_rest_7, wp_s e_X3_rest_9, wp_s e_X3_rest_12, wp_s e_X3_rest_13, wp_s e_X3_rest_16, wp_s e_X3_rest_17, wp_s e_X3_rest_20, wp_s e_X3_rest_21, st_aload_n, st_getI, st_ifCond, st_ldcI, st_goto, st_isub, st_iret, pR_c, pI_c, iR_0, kc_c, hk, hN, and_self, true_and, List.contains_nil, Bool.false_eq_true, if_false, cnd]
  trace_state
  sorry
