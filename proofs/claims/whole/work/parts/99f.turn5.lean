abbrev q_L_turn : MI := (yL_turn, cL_turn, 5, some .int)
def t_L_turn : Tab := [(0, [], (.aload_n 3, 1, 3, [], .returned)),
  (1, [], (.iconst 0, 2, 0, [], .constant "" 0 (0))),
  (2, [], (.aload_n 0, 3, 0, [], .returned)),
  (3, [], (.iload_n 1, 4, 1, [], .returned)),
  (4, [], (.iload_n 2, 5, 2, [], .returned)),
  (8, [], (.i2l, 9, 0, [], .returned)),
  (9, [], (.lastore, 10, 0, [], .returned)),
  (10, [], (.goto 7, 13, 17, [], .returned)),
  (17, [], (.iconst 0, 18, 0, [], .constant "" 0 (0)))]
theorem ck_L_turn : okT q_L_turn t_L_turn = true := by decide +kernel
theorem og_L_turn : GG.okG t_L_turn = true := by decide +kernel
theorem e_L_turn_0 : lk t_L_turn 0 = some (.aload_n 3, 1, 3, [], .returned) := rfl
theorem e_L_turn_1 : lk t_L_turn 1 = some (.iconst 0, 2, 0, [], .constant "" 0 (0)) := rfl
theorem e_L_turn_2 : lk t_L_turn 2 = some (.aload_n 0, 3, 0, [], .returned) := rfl
theorem e_L_turn_3 : lk t_L_turn 3 = some (.iload_n 1, 4, 1, [], .returned) := rfl
theorem e_L_turn_4 : lk t_L_turn 4 = some (.iload_n 2, 5, 2, [], .returned) := rfl
theorem e_L_turn_8 : lk t_L_turn 8 = some (.i2l, 9, 0, [], .returned) := rfl
theorem e_L_turn_9 : lk t_L_turn 9 = some (.lastore, 10, 0, [], .returned) := rfl
theorem e_L_turn_10 : lk t_L_turn 10 = some (.goto 7, 13, 17, [], .returned) := rfl
theorem e_L_turn_17 : lk t_L_turn 17 = some (.iconst 0, 18, 0, [], .constant "" 0 (0)) := rfl
theorem z_L_turn_5 : lk t_L_turn 5 = none := rfl
theorem z_L_turn_18 : lk t_L_turn 18 = none := rfl
theorem lt_w : (.methodLink "PayOrdersLaw" 7 yX9_turn ∈ WT ∧ .instanceMethod yX9_turn ∈ WT ∧ .selects "PayOrders" yX9_turn yX9_turn ∈ WT ∧ .initialized "PayOrders" ∈ WT ∧ .code yX9_turn cX9_turn 4 (some .int) ∈ WT) := ⟨mW_sp (hl := [970]) (by decide +kernel), mW_sp (hl := [971]) (by decide +kernel), mW_sp (hl := [972]) (by decide +kernel), mW_sp (hl := [92]) (by decide +kernel), mW_sp (hl := [973]) (by decide +kernel)⟩
theorem lt_c : Cond.classLink "PayOrdersLaw" 13 nsE ∈ WT := mW_sp (hl := [969]) (by decide +kernel)
theorem lt_k : Cond.castable nsE nsE ∈ EW := by decide +kernel
def GPu (n0 : Nat) (Rt : Option Value → St → Prop) (c0 s0 : Nat) : GP :=
  (rmOf 14 1 6, c0, s0, (fun base ρ p s m args c => c.exceptionTable.toList = tableOf [(0, 10, 13, 13)] ∧ ET s), (fun base ρ D aC below args s meth c => vx_MQ below (Qf base ρ D aC n0 0 Rt) (fun _ _ _ => False) args s 1 6 (Ab base)))
section TURN5
variable {n0 : Nat} {Rt R1 : Option Value → St → Prop} {σ : St} {x i : Int32} {ls : List Value} {A : Prop}
theorem u_ret {y : Int32} {c0 s0 : Nat} (hc : c0 ≤ 1) (hs : s0 ≤ 6) (h : Rt (some (.int y)) σ) : GG.X 14 q_L_turn n0 0 0 (GPu n0 Rt c0 s0) 18 0 0 ls [.int y] σ := by
  intro base ρ D aC p l e s m args below meth c H locs lsJ hfl C hW hS hL hZ
  refine vx_ret ?_
  refine W.widen (k := 1) (n := 6) (by show c0 + 0 ≤ 1; omega) (by show s0 + 0 ≤ 6; omega) ?_
  exact W.iret C.1 C.2.1 C.2.2.2.1 (fun t ht _ => ⟨⟨some (.int y), σ, rfl, h, by rw [ht]; exact hW, hZ.2⟩, hS.F ht⟩) hS.2.2 (by decide +kernel) C.2.2.2.2.2.1
theorem u_call (hm : ∀ (base : Nat) (ρ : Nat → Nat) (D : va_G) (aC : Nat → ClassId) (l : Launch), l.flags = flags0 → vx_Met l yX9_turn (.code yX9_turn cX9_turn 4 (some .int) :: WT) (rmOf 13 1 6) (Pt base ρ D aC [.ref 0, .int x, .int i] σ) (Qf base ρ D aC (gN σ) 0 R1) (XCt A base ρ D aC σ) 1 6 (Ab base))
    (h0 : 0 < gN σ) (hret : ∀ v σ', R1 v σ' → gN σ ≤ gN σ' → GG.X 14 q_L_turn n0 0 0 (GPu n0 Rt 1 6) 8 0 0 [.ref 0, .int x, .int i, .ref 106, .null] (v.toList ++ [.int 0, .ref 106]) σ') (hthr : A → Rt (some (.int 1)) σ) :
    GG.X 14 q_L_turn n0 0 0 (GPu n0 Rt 0 0) 5 0 0 [.ref 0, .int x, .int i, .ref 106, .null] [.int i, .int x, .ref 0, .int 0, .ref 106] σ := by
  intro base ρ D aC p l e s m args below meth c H locs lsJ hfl C9 hW hS hL hZ
  intro T hT X9
  obtain ⟨htb, hET⟩ := hfl.2.2
  have hts := C9.2.2.2.2.2.2.2.1
  have hK := C9.2.2.2.2.2.2.2.2.1
  have hw9 := ws_at (ρ := ρ) (aC := aC) h0
  rw [cell_obj (show sh 0 = (0, 9) from rfl)] at hw9
  have hG : GoodIn WT (wsV "PayOrdersLaw" 7 "PayOrders" yX9_turn (.code yX9_turn cX9_turn 4 (some .int) :: WT)) := by
    intro w hw
    refine WT_good w ?_
    unfold wsV at hw
    simp only [List.cons_append, List.nil_append, List.mem_cons] at hw
    obtain ⟨w1, w2, w3, w4, w5⟩ := lt_w
    rcases hw with rfl | rfl | rfl | rfl | rfl | hw
    · exact w1
    · exact w2
    · exact w3
    · exact w4
    · exact w5
    · exact hw
  have hr := vx_runV (As := [.int x, .int i]) (rest := [.int 0, .ref (ρ 106)]) (b := ρ 0) (g := F0 m 5 lsJ ([.int i, .int x, .ref 0, .int 0, .ref 106].map (lf ρ))) (R := rmOf 14 1 6) (cells := 0 + 0) (slots := 0 + 0) (e := e) (p := p) (below := below) (meth := meth) (locs := locs) (H := H) ⟨C9.1, C9.2.1, C9.2.2.1, C9.2.2.2.2.1, hts⟩ (hm base ρ D aC l hfl.1) (cwV 2 hts hG rfl rfl rfl ⟨rfl, by decide +kernel⟩ ⟨by show 13 + 1 ≤ 14; omega, by show 8 + (4 + 11) + 40 * 13 ≤ 40 * 14; omega⟩)
    ⟨Pt_blind, va_recv hK hW.1 (ci := 9) rfl hw9, fun U hU hWm => ⟨⟨rfl, by rw [hU]; exact hW, fun z => absurd z (Nat.lt_irrefl 0), va_K.moved hWm.alike hK, Ex_moved C9.2.2.2.2.2.2.2.2.2 hS hU hWm⟩, ET_moved hWm hET⟩⟩ rfl rfl hL.1 rfl (show 2 * 0 + 2 ≤ 8 from by decide) (show decode cL_turn 5 = .ok (.invokevirtual 7, 3) from by decide +kernel) ⟨by show 0 + 0 + 1 ≤ 1; omega, by show 0 + 0 + 6 ≤ 6; omega⟩ T hT X9
  rcases hr with ⟨v, st₀, t, T', L, h0', X', hL', e1, e2, ⟨⟨r, σ', hv, hp, hb, hn⟩, hz, hk⟩, sp⟩ | ⟨q, st₀, t, T', L, E, ce, h0', X', hL', e1, e2, ⟨hA, hE1, hb, hz, hk⟩, hce, hcv, hcl, sp⟩
  · cases hv
    rw [h0'] at hz hk
    have hS1 : va_S (Ab base) s.heap T'.heap (locs ++ L) := ⟨Nat.le_trans hS.1 (by rw [e1]; exact hz), fun x h1 h2 => by rw [e1, hk x (Nat.lt_of_lt_of_le h1 hS.1) h2]; exact hS.2.1 x h1 h2, fun x hx => by
      rcases List.mem_append.mp hx with z | z
      · exact hS.2.2 x z
      · exact hL' x z⟩
    have h9 := hret r σ' hp hn base ρ D aC p l e s m args below meth c T'.heap (locs ++ L) lsJ ⟨hfl.1, ⟨hfl.2.1.1, hfl.2.1.2.1, by show 1 + 0 ≤ 1; omega, by show 6 + 0 ≤ 6; omega⟩, hfl.2.2⟩ C9 (by rw [e1]; exact hb) hS1 hL ⟨fun z => absurd z (Nat.lt_irrefl 0), by have := hZ.2; omega⟩
    rw [toL_map] at h9
    obtain ⟨t2, a1, b1⟩ := h9 T' rfl X'
    exact ⟨t2, sp t2 a1, b1⟩
  · subst hE1
    rw [h0'] at hz hk
    have hS1 : va_S (Ab base) s.heap T'.heap (locs ++ L) := ⟨Nat.le_trans hS.1 (by rw [e1]; exact hz), fun x h1 h2 => by rw [e1, hk x (Nat.lt_of_lt_of_le h1 hS.1) h2]; exact hS.2.1 x h1 h2, fun x hx => by
      rcases List.mem_append.mp hx with z | z
      · exact hS.2.2 x z
      · exact hL' x z⟩
    have hcs : (Cond.castable nsE nsE).before args s = true := va_Nw.use rfl (hET _ lt_k)
    have hW1 : Wd base ρ D aC σ T'.heap := by rw [e1]; exact hb
    have h9 : vx_W p l e (rmOf 14 1 6) s m args below meth c T'.heap (locs ++ L) 1 6 (vx_MQ below (Qf base ρ D aC n0 0 Rt) (fun _ _ _ => False) args s 1 6 (Ab base)) (F0 m 5 lsJ [.int 0, .ref (ρ 106)]) q := by
      refine vx_catch (own := "PayOrdersLaw") (name := nsE) (E := nsE) (ce := ce) C9.2.2.2.2.1 [] _ [] htb (fun z hz => nomatch hz) (by decide) (by decide) (hts _ lt_c) hcs (by rw [e1]; exact hce) hcv hcl ?_
      refine lv_astore C9.1 C9.2.1 (i := 4) (by decide +kernel) hL.has (by show 4 < 5; omega) rfl (fun ls' hl' => ?_)
      refine lv_iconst (v := 1) C9.1 C9.2.1 (show decode cL_turn 15 = .ok (.iconst 1, 1) from by decide +kernel) (by decide) ?_
      refine vx_ret ?_
      exact W.iret C9.1 C9.2.1 C9.2.2.2.1 (fun t ht _ => ⟨⟨some (.int 1), σ, rfl, hthr hA, by rw [ht]; exact hW1, hZ.2⟩, hS1.F ht⟩) hS1.2.2 (by decide +kernel) C9.2.2.2.2.2.1
    obtain ⟨t2, a1, b1⟩ := h9 T' rfl X'
    exact ⟨t2, sp.trans a1, b1⟩
end TURN5
