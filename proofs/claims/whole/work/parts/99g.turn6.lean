theorem lt_cw : Cond.codeWith yL_turn cL_turn 5 (some .int) [(0, 10, 13, 13)] ∈ WT := mW_sp (hl := [968]) (by decide +kernel)
theorem ltu_s : Cond.methodLink "PayOrdersLaw" 145 yL_turn ∈ WT ∧ Cond.static yL_turn ∈ WT ∧ Cond.initialized "PayOrdersLaw" ∈ WT := ⟨mW_sp (hl := [966]) (by decide +kernel), mW_sp (hl := [967, 969, 970, 965]) (by decide +kernel), mW_sp (hl := [91]) (by decide +kernel)⟩
/-- what the law's turn answers -/
def RLt (A B : Prop) (y : Int32) (σ : St) : Option Value → St → Prop := fun v σ' => (A ∧ v = some (.int 1) ∧ σ' = σ) ∨ (B ∧ v = some (.int 0) ∧ σ' = sL σ 106 0 y.toInt64)
section TURN6
variable {x i y : Int32} {σ : St} {A B : Prop} {Rt : Option Value → St → Prop}
set_option maxRecDepth 10000 in
theorem u_walk (hm : ∀ (base : Nat) (ρ : Nat → Nat) (D : va_G) (aC : Nat → ClassId) (l : Launch), l.flags = flags0 → vx_Met l yX9_turn (.code yX9_turn cX9_turn 4 (some .int) :: WT) (rmOf 13 1 6) (Pt base ρ D aC [.ref 0, .int x, .int i] σ) (Qf base ρ D aC (gN σ) 0 (fun v σ' => B ∧ v = some (.int y) ∧ σ' = σ)) (XCt A base ρ D aC σ) 1 6 (Ab base))
    (h0 : 106 < gN σ) : GG.X 14 q_L_turn (gN σ) 0 0 (GPu (gN σ) (RLt A B y σ) 0 0) 0 0 0 [.ref 0, .int x, .int i, .ref 106, .null] [] σ := by
  have g0 : 0 < gN σ := by omega
  refine GG.X_wp [] ck_L_turn og_L_turn 12 ?_
  simp (maxSteps := 2000000) (decide := true) only [wp_s e_L_turn_0, wp_s e_L_turn_1, wp_s e_L_turn_2, wp_s e_L_turn_3, wp_s e_L_turn_4, wp_s e_L_turn_8, wp_s e_L_turn_9, wp_s e_L_turn_10, wp_s e_L_turn_17, wp_n z_L_turn_5, wp_n z_L_turn_18, ↓reduceIte, st_iadd, st_isub, st_imul, st_iand, st_ior, st_ishl, st_ishr, st_idiv, st_irem, st_ladd, st_lsub, st_lmul, st_lor, st_land, st_ldiv, st_lshl, st_lcmp, st_i2l, st_i2b, st_l2i, st_i2c, st_iconst, st_bipush, st_sipush, st_lconst, st_ldc2_w, st_ldc_w, st_ldcI, st_ldcS, st_iload, st_iload_n, st_lload, st_lload_n, st_aload, st_aload_n, st_istore, st_istore_n, st_lstore, st_lstore_n, st_astore, st_astore_n, st_iinc, st_dup, st_pop, st_dup2, st_ifCond, st_if_icmp, st_goto, st_getI, st_getL, st_getR, st_putI, st_putL, st_putR, st_putZ, st_sval, st_scod, st_baload, st_baloadS, st_alen, st_alenS, st_gets1, st_getsF, st_iaload, st_laload, st_aaload, st_iastore, st_lastore, st_bastoreB, st_bastoreZ, st_aastore, st_iret, st_zret, st_cret, st_bret, st_return_, st_areturn, st_invV, st_invVS, st_invS, st_invI, st_minI, st_maxI, st_obj, st_new, st_newarray, st_anewarray, st_multianewarray, st_table, st_lookup, pI_c, pL_c, pR_c, p1_i, p1_r, p1_n, iI_0, iI_s, iL_0, iL_s, iR_0, iR_s, rfV_s, kc_c, kl_c, cats_0, cats_i, cats_l, cats_r, rcv_c, rcvS_c, isRefA_c, cl_0, cl_1, cl_2, cl_3, cl_4, cl_5, cl_6, cl_7, set1_0, set1_1i, set1_1r, set1_1n, set1_s, set2_s, set2_1i, set2_1r, set2_1n, toL_s, toL_n, cnd, and_self, true_and, and_true, true_or, or_true, List.contains_nil, List.contains_cons, Bool.or_false, beq_iff_eq, Nat.reduceBEq, Nat.reduceEqDiff, Nat.reduceAdd, Nat.reduceLeDiff, Nat.reduceSub, Bool.false_eq_true, if_false, if_true, Nat.zero_le, Nat.add_zero, Nat.zero_add, Nat.le_refl, gN_sI, gN_sL, gN_sR, gR_sI, gR_sL, gR_sR, g0, h0, true_implies, false_implies, bI_t, bI_f, false_and, and_false, if_false, if_true, not_true_eq_false, not_false_eq_true]
  refine u_call hm g0 (fun v σ' hr hn => ?_) (fun hA => Or.inl ⟨hA, rfl, rfl⟩)
  obtain ⟨hB, rfl, rfl⟩ := hr
  refine GG.X_wp [] ck_L_turn og_L_turn 12 ?_
  have k0 : (0 : Int32).toNatClampNeg = 0 := rfl
  have v0 : vp_in 0 1 := vp_in_nI (n := 0) (by omega) (by omega)
  simp (maxSteps := 2000000) (decide := true) only [wp_s e_L_turn_0, wp_s e_L_turn_1, wp_s e_L_turn_2, wp_s e_L_turn_3, wp_s e_L_turn_4, wp_s e_L_turn_8, wp_s e_L_turn_9, wp_s e_L_turn_10, wp_s e_L_turn_17, wp_n z_L_turn_5, wp_n z_L_turn_18, ↓reduceIte, st_iadd, st_isub, st_imul, st_iand, st_ior, st_ishl, st_ishr, st_idiv, st_irem, st_ladd, st_lsub, st_lmul, st_lor, st_land, st_ldiv, st_lshl, st_lcmp, st_i2l, st_i2b, st_l2i, st_i2c, st_iconst, st_bipush, st_sipush, st_lconst, st_ldc2_w, st_ldc_w, st_ldcI, st_ldcS, st_iload, st_iload_n, st_lload, st_lload_n, st_aload, st_aload_n, st_istore, st_istore_n, st_lstore, st_lstore_n, st_astore, st_astore_n, st_iinc, st_dup, st_pop, st_dup2, st_ifCond, st_if_icmp, st_goto, st_getI, st_getL, st_getR, st_putI, st_putL, st_putR, st_putZ, st_sval, st_scod, st_baload, st_baloadS, st_alen, st_alenS, st_gets1, st_getsF, st_iaload, st_laload, st_aaload, st_iastore, st_lastore, st_bastoreB, st_bastoreZ, st_aastore, st_iret, st_zret, st_cret, st_bret, st_return_, st_areturn, st_invV, st_invVS, st_invS, st_invI, st_minI, st_maxI, st_obj, st_new, st_newarray, st_anewarray, st_multianewarray, st_table, st_lookup, pI_c, pL_c, pR_c, p1_i, p1_r, p1_n, iI_0, iI_s, iL_0, iL_s, iR_0, iR_s, rfV_s, kc_c, kl_c, cats_0, cats_i, cats_l, cats_r, rcv_c, rcvS_c, isRefA_c, cl_0, cl_1, cl_2, cl_3, cl_4, cl_5, cl_6, cl_7, set1_0, set1_1i, set1_1r, set1_1n, set1_s, set2_s, set2_1i, set2_1r, set2_1n, toL_s, toL_n, cnd, and_self, true_and, and_true, true_or, or_true, List.contains_nil, List.contains_cons, Bool.or_false, beq_iff_eq, Nat.reduceBEq, Nat.reduceEqDiff, Nat.reduceAdd, Nat.reduceLeDiff, Nat.reduceSub, Bool.false_eq_true, if_false, if_true, Nat.zero_le, Nat.add_zero, Nat.zero_add, Nat.le_refl, gN_sI, gN_sL, gN_sR, gR_sI, gR_sL, gR_sR, g0, h0, k0, v0, sh_106, st_lastore, gN_sL, true_implies, false_implies, bI_t, bI_f, false_and, and_false, if_false, if_true, not_true_eq_false, not_false_eq_true]
  exact u_ret (by omega) (by omega) (Or.inr ⟨hB, rfl, rfl⟩)
theorem m_lturn (hwalk : GG.X 14 q_L_turn (gN σ) 0 0 (GPu (gN σ) Rt 0 0) 0 0 0 [.ref 0, .int x, .int i, .ref 106, .null] [] σ) {base : Nat} {ρ : Nat → Nat} {D : va_G} {aC : Nat → ClassId} {l : Launch} (hfl : l.flags = flags0) :
    Met l yL_turn (.codeWith yL_turn cL_turn 5 (some .int) [(0, 10, 13, 13)] :: WT) (rmOf 14 1 6) (Pt base ρ D aC [.ref 0, .int x, .int i, .ref 106] σ) (Qf base ρ D aC (gN σ) 0 Rt) 1 6 (Ab base) := by
  have h : vx_Met l yL_turn (.codeWith yL_turn cL_turn 5 (some .int) [(0, 10, 13, 13)] :: WT) (rmOf 14 1 6) (Pt base ρ D aC [.ref 0, .int x, .int i, .ref 106] σ) (Qf base ρ D aC (gN σ) 0 Rt) (fun _ _ _ => False) 1 6 (Ab base) := by
    refine vx_ofWH (cc := cL_turn) (maxL := 5) (ret := some .int) (hh := [(0, 10, 13, 13)]) (by decide +kernel) rfl ?_
    intro p e s m args below meth c s₁ B hml hv
    obtain ⟨⟨rfl, hWd, hz, hK, hE⟩, hET⟩ := hv
    have hts := atoms_spec (ws := .codeWith yL_turn cL_turn 5 (some .int) [(0, 10, 13, 13)] :: WT) B.pre
    have htb := vx_table (x := yL_turn) B (hts _ List.mem_cons_self)
    rw [lg_entry_eq]
    exact hwalk base ρ D aC p l e s m _ below meth c s.heap [] _ ⟨hfl, ⟨by show 14 ≤ 14; omega, by show 40 * 14 ≤ 40 * 14; omega, by show 0 + 0 ≤ 1; omega, by show 0 + 0 ≤ 6; omega⟩, htb, hET⟩ ⟨B.exec, B.bytes, hml, B.returns, findClass_of_methodNamed B.named, B.notSynchronized, trivial, fun w hw => hts w (List.mem_cons_of_mem _ hw), hK, hE⟩ hWd va_S.rf (Lo_entry (as := [.ref 0, .int x, .int i, .ref 106]) (show 4 ≤ 5 from by omega)) ⟨fun z => absurd z (Nat.lt_irrefl 0), Nat.le_refl _⟩
  exact MetFree.mono h (fun _ _ z => z) (fun _ _ _ _ _ z => z) (fun a s o t _ hq => by
    rcases hq with z | ⟨q, _, E, ce, L, hF, _⟩
    · exact z
    · exact hF.elim)
theorem lt_good : GoodIn WT (va_wsS "PayOrdersLaw" 145 yL_turn (.codeWith yL_turn cL_turn 5 (some .int) [(0, 10, 13, 13)] :: WT)) := by
  intro w hw
  refine WT_good w ?_
  unfold va_wsS at hw
  simp only [List.cons_append, List.nil_append, List.mem_cons] at hw
  obtain ⟨w1, w2, w3⟩ := ltu_s
  rcases hw with rfl | rfl | rfl | rfl | hw
  all_goals first | exact w1 | exact w2 | exact w3 | exact lt_cw | exact hw
end TURN6
section TURN7
variable {b L i c c0 s0 : Nat} {xs : Nat → Int32} {σ : St} {x5 x6 : Value} {A B : Prop} {x k y : Int32}
theorem GG.l_call (hm : ∀ (base : Nat) (ρ : Nat → Nat) (D : va_G) (aC : Nat → ClassId) (l : Launch), l.flags = flags0 → Met l yL_turn (.codeWith yL_turn cL_turn 5 (some .int) [(0, 10, 13, 13)] :: WT) (rmOf 14 1 6) (Pt base ρ D aC [.ref 0, .int x, .int k, .ref 106] σ) (Qf base ρ D aC (gN σ) 0 (RLt A B y σ)) 1 6 (Ab base))
    (hc : c0 + 1 ≤ 601024) (hs : s0 + 6 ≤ 7293034) {ls : List Value} (h1 : A → X 15 q_L_law 0 0 0 (GPl b L xs (c0 + 1) (s0 + 6)) 1367 0 0 ls [.int 1] σ) (h2 : B → X 15 q_L_law 0 0 0 (GPl b L xs (c0 + 1) (s0 + 6)) 1367 0 0 ls [.int 0] (sL σ 106 0 y.toInt64)) :
    X 15 q_L_law 0 0 0 (GPl b L xs c0 s0) 1364 0 0 ls [.ref 106, .int k, .int x, .ref 0] σ := by
  intro base ρ D aC p l e s m args below meth c H locs lsJ hfl C9 hW hS hL hZ
  have hpre := hfl.2.2
  obtain ⟨p1, p2, p3, p4, p5, hlw⟩ := hfl.2.2
  have hET : ET s := ET_of hlw
  have hts := C9.2.2.2.2.2.2.2.1
  have hK := C9.2.2.2.2.2.2.2.2.1
  have hr := vx_runSW (y := yL_turn) (bytes := cL_turn) (maxL := 5) (ret := some .int) (hh := [(0, 10, 13, 13)]) (index := 145) (n := 4) (As := [.ref (ρ 0), .int x, .int k, .ref (ρ 106)]) (rest := []) (g := F0 m 1364 lsJ ([.ref 106, .int k, .int x, .ref 0].map (lf ρ))) (R := room_1) (cells := c0 + 0) (slots := s0 + 0) (e := e) (p := p) (below := below) (meth := meth) (locs := locs) (H := H) ⟨C9.1, C9.2.1, C9.2.2.1, C9.2.2.2.2.1, hts⟩ (hm base ρ D aC l hfl.1) (vx_cwSW 4 hts lt_good rfl rfl rfl ⟨by decide +kernel, by decide +kernel, by decide +kernel⟩ ⟨by show 14 + 1 ≤ 15; omega, by show 8 + (5 + 11) + 40 * 14 ≤ 636; omega⟩)
    ⟨Pt_blind, fun U hU hWm => ⟨⟨rfl, by rw [hU]; exact hW, fun z => absurd z (Nat.lt_irrefl 0), va_K.moved hWm.alike hK, Ex_moved C9.2.2.2.2.2.2.2.2.2 hS hU hWm⟩, ET_moved hWm hET⟩⟩ rfl rfl hL.1 rfl (show 2 * 0 + 0 ≤ 8 from by decide) (show decode code 1364 = .ok (.invokestatic 145, 3) from by decide +kernel) ⟨by show c0 + 0 + 1 ≤ 601024; omega, by show s0 + 0 + 6 ≤ 7293034; omega⟩
  intro T hT X9
  obtain ⟨v, st₀, t, T', Lc, h0', X', hL', e1, e2, ⟨⟨r, σ', hv, hp, hb, hn⟩, hz, hk⟩, sp⟩ := hr T hT X9
  cases hv
  rw [h0'] at hz hk
  have hS1 : va_S (Ab base) s.heap T'.heap (locs ++ Lc) := ⟨Nat.le_trans hS.1 (by rw [e1]; exact hz), fun x h1 h2 => by rw [e1, hk x (Nat.lt_of_lt_of_le h1 hS.1) h2]; exact hS.2.1 x h1 h2, fun x hx => by
      rcases List.mem_append.mp hx with z | z
      · exact hS.2.2 x z
      · exact hL' x z⟩
  have key : X 15 q_L_law 0 0 0 (GPl b L xs (c0 + 1) (s0 + 6)) 1367 0 0 ls r.toList σ' := by
    rcases hp with ⟨hA, rfl, rfl⟩ | ⟨hB, rfl, rfl⟩
    · exact h1 hA
    · exact h2 hB
  have h9 := key base ρ D aC p l e s m args below meth c T'.heap (locs ++ Lc) lsJ ⟨hfl.1, ⟨hfl.2.1.1, hfl.2.1.2.1, by show c0 + 1 + 0 ≤ 601024; omega, by show s0 + 6 + 0 ≤ 7293034; omega⟩, hpre⟩ C9 (by rw [e1]; exact hb) hS1 hL ⟨fun z => absurd z (Nat.lt_irrefl 0), Nat.zero_le _⟩
  have ee : r.toList.map (lf ρ) = (r.map (lf ρ)).toList ++ [] := by cases r <;> rfl
  rw [ee] at h9
  obtain ⟨t2, a1, b1⟩ := h9 T' rfl X'
  exact ⟨t2, sp t2 a1, b1⟩
end TURN7
