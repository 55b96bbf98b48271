abbrev q_X9_turn : MI := (yX9_turn, cX9_turn, 4, some .int)
def t_X9_turn : Tab := [(0, [], (.aload_n 0, 1, 0, [], .returned)),
  (1, [445], (.getfield 47, 4, 9, [5, 2], .returned)),
  (4, [], (.iload_n 1, 5, 1, [], .returned)),
  (5, [684, 687, 685, 686, 99], (.invokevirtual 183, 8, 0, [1, 0, 0, 0], .code yX0_hasPayer cX0_hasPayer 2 (some .boolean))),
  (8, [], (.ifCond .eq 15, 11, 23, [], .returned)),
  (11, [], (.aload_n 0, 12, 0, [], .returned)),
  (12, [445], (.getfield 47, 15, 9, [5, 2], .returned)),
  (15, [], (.iload_n 1, 16, 1, [], .returned)),
  (16, [], (.iload_n 2, 17, 2, [], .returned)),
  (17, [974, 977, 975, 976, 99], (.invokevirtual 300, 20, 0, [2, 0, 0, 0], .code yX0_inTurn cX0_inTurn 6 (some .int))),
  (20, [], (.goto 4, 23, 24, [], .returned)),
  (23, [], (.iconst (-1), 24, 0, [], .constant "" 0 (-1))),
  (24, [], (.istore_n 3, 25, 3, [], .returned)),
  (25, [], (.iload_n 3, 26, 3, [], .returned)),
  (26, [], (.iconst (-1), 27, 0, [], .constant "" 0 (-1))),
  (27, [], (.if_icmp .ne 14, 30, 41, [], .returned)),
  (41, [], (.iload_n 3, 42, 3, [], .returned))]
theorem ck_X9_turn : okT q_X9_turn t_X9_turn = true := by decide +kernel
theorem og_X9_turn : GG.okG t_X9_turn = true := by decide +kernel
theorem e_X9_turn_0 : lk t_X9_turn 0 = some (.aload_n 0, 1, 0, [], .returned) := rfl
theorem e_X9_turn_1 : lk t_X9_turn 1 = some (.getfield 47, 4, 9, [5, 2], .returned) := rfl
theorem e_X9_turn_4 : lk t_X9_turn 4 = some (.iload_n 1, 5, 1, [], .returned) := rfl
theorem e_X9_turn_5 : lk t_X9_turn 5 = some (.invokevirtual 183, 8, 0, [1, 0, 0, 0], .code yX0_hasPayer cX0_hasPayer 2 (some .boolean)) := rfl
theorem e_X9_turn_8 : lk t_X9_turn 8 = some (.ifCond .eq 15, 11, 23, [], .returned) := rfl
theorem e_X9_turn_11 : lk t_X9_turn 11 = some (.aload_n 0, 12, 0, [], .returned) := rfl
theorem e_X9_turn_12 : lk t_X9_turn 12 = some (.getfield 47, 15, 9, [5, 2], .returned) := rfl
theorem e_X9_turn_15 : lk t_X9_turn 15 = some (.iload_n 1, 16, 1, [], .returned) := rfl
theorem e_X9_turn_16 : lk t_X9_turn 16 = some (.iload_n 2, 17, 2, [], .returned) := rfl
theorem e_X9_turn_17 : lk t_X9_turn 17 = some (.invokevirtual 300, 20, 0, [2, 0, 0, 0], .code yX0_inTurn cX0_inTurn 6 (some .int)) := rfl
theorem e_X9_turn_20 : lk t_X9_turn 20 = some (.goto 4, 23, 24, [], .returned) := rfl
theorem e_X9_turn_23 : lk t_X9_turn 23 = some (.iconst (-1), 24, 0, [], .constant "" 0 (-1)) := rfl
theorem e_X9_turn_24 : lk t_X9_turn 24 = some (.istore_n 3, 25, 3, [], .returned) := rfl
theorem e_X9_turn_25 : lk t_X9_turn 25 = some (.iload_n 3, 26, 3, [], .returned) := rfl
theorem e_X9_turn_26 : lk t_X9_turn 26 = some (.iconst (-1), 27, 0, [], .constant "" 0 (-1)) := rfl
theorem e_X9_turn_27 : lk t_X9_turn 27 = some (.if_icmp .ne 14, 30, 41, [], .returned) := rfl
theorem e_X9_turn_41 : lk t_X9_turn 41 = some (.iload_n 3, 42, 3, [], .returned) := rfl
theorem z_X9_turn_30 : lk t_X9_turn 30 = none := rfl
theorem z_X9_turn_42 : lk t_X9_turn 42 = none := rfl
def nsE : String := "java/util/NoSuchElementException"
def nsB : ByteArray := ⟨#[42, 43, 183, 0, 13, 177]⟩
def nsN : List String := ["java/lang/RuntimeException", "java/lang/Exception"]
def nsW : List Cond := (Bundle.ownAtomsX "PayOrders" 307 nsE 13 nsB nsN).filter vx_no
/-- the words of a throw that aren't kept as they stand -/
def EW : List Cond := nsW.filter fun w => !decide (w ∈ WT)
theorem EW_ok : (EW.all fun w => w.onTables && (match w with
  | .castable _ _ => true
  | w => w.warmB w.codeNames)) = true := by decide +kernel
theorem EW_in : (EW.all fun w => decide (w ∈ lw_tbl)) = true := by decide +kernel
def ET (U : State) : Prop := ∀ w ∈ EW, va_Nw w U
theorem ET_moved {s U : State} (hW : s.WarmedH U.vm) (h : ET s) : ET U := by
  intro w hw
  have h1 := List.all_eq_true.mp EW_ok w hw
  rw [Bool.and_eq_true] at h1
  have h2 := h w hw
  by_cases hc : ∃ C T, w = .castable C T
  · obtain ⟨C, T, rfl⟩ := hc
    exact va_Nw.warmC hW h2
  · have h3 : w.warmB w.codeNames = true := by
      have h4 := h1.2
      cases w <;> first | exact h4 | exact absurd ⟨_, _, rfl⟩ hc
    exact va_tabs h1.1 (rfl : (s.setVm U.vm).vm = U.vm) (Cond.pre_warmed hW h3 h2)
theorem ET_of {args : Array Value} {s : State} (hts : ∀ w ∈ lw_tbl, w.before args s = true) : ET s := by
  intro w hw
  have h1 := List.all_eq_true.mp EW_ok w hw
  rw [Bool.and_eq_true] at h1
  exact va_Nw.of h1.1 (hts w (of_decide_eq_true (List.all_eq_true.mp EW_in w hw)))
theorem ns_at {args : Array Value} {s : State} (hts : ∀ w ∈ WT, w.before args s = true) (hE : ET s) : ∀ w ∈ nsW, w.before args s = true := by
  intro w hw
  by_cases h : w ∈ WT
  · exact hts w h
  · have hm : w ∈ EW := List.mem_filter.mpr ⟨hw, by rw [decide_eq_false h]; rfl⟩
    have h1 := List.all_eq_true.mp EW_ok w hm
    rw [Bool.and_eq_true] at h1
    exact va_Nw.use h1.1 (hE w hm)
theorem ns_ot : ((Cond.classLink "PayOrders" 303 nsE :: Cond.initialized nsE :: nsW).all vx_ot) = true := by decide +kernel
theorem ns_w1 : Cond.classLink "PayOrders" 303 nsE ∈ WT := mW_sp (hl := [978]) (by decide +kernel)
theorem ns_w2 : Cond.initialized nsE ∈ WT := mW_sp (hl := [112]) (by decide +kernel)
def XCt (A : Prop) (base : Nat) (ρ : Nat → Nat) (D : va_G) (aC : Nat → ClassId) (σ : St) : String → State → State → Prop := fun E st t => A ∧ E = nsE ∧ Wd base ρ D aC σ t.heap ∧ va_F (Ab base) st t
def GPt (n0 : Nat) (Rt : Option Value → St → Prop) (σ0 : St) (A : Prop) : GP :=
  (rmOf 13 1 6, 0, 0, (fun base ρ p s m args c => (∀ x ∈ c.exceptionTable.toList, False) ∧ ET s), (fun base ρ D aC below args s meth c => vx_MQ below (Qf base ρ D aC n0 0 Rt) (XCt A base ρ D aC σ0) args s 1 6 (Ab base)))
section TURN2
variable {n0 : Nat} {Rt : Option Value → St → Prop} {σ σ0 : St} {ls : List Value} {x : Int32} {A : Prop}
theorem t_ret (h : Rt (some (.int x)) σ) : GG.X 13 q_X9_turn n0 0 0 (GPt n0 Rt σ0 A) 42 0 0 ls [.int x] σ := by
  intro base ρ D aC p l e s m args below meth c H locs lsJ hfl C hW hS hL hZ
  refine vx_ret ?_
  refine W.widen (k := 1) (n := 6) (by show 0 + 0 ≤ 1; omega) (by show 0 + 0 ≤ 6; omega) ?_
  exact W.iret C.1 C.2.1 C.2.2.2.1 (fun t ht _ => ⟨⟨some (.int x), σ, rfl, h, by rw [ht]; exact hW, hZ.2⟩, hS.F ht⟩) hS.2.2 (by decide +kernel) C.2.2.2.2.2.1
theorem Wd_more {base : Nat} {ρ : Nat → Nat} {D : va_G} {aC : Nat → ClassId} {H H1 : Heap} (hW : Wd base ρ D aC σ H) (h1 : H.size ≤ H1.size) (h2 : ∀ q : Nat, q < H.size → H1[q]? = H[q]?) : Wd base ρ D aC σ H1 :=
  ⟨hW.1.kept (fun k x hx => h2 x.1 ((hW.1 k x hx).lt)), hW.2.1, Nat.le_trans hW.2.2 h1⟩
theorem t_throw (hA : A) : GG.X 13 q_X9_turn n0 0 0 (GPt n0 Rt σ A) 30 0 0 ls [] σ := by
  intro base ρ D aC p l e s m args below meth c H locs lsJ hfl C hW hS hL hZ
  obtain ⟨hex, hET⟩ := hfl.2.2
  have hts := C.2.2.2.2.2.2.2.1
  have hE := C.2.2.2.2.2.2.2.2.2
  have hot : ∀ w ∈ Cond.classLink "PayOrders" 303 nsE :: Cond.initialized nsE :: nsW, vx_ot w = true := List.all_eq_true.mp ns_ot
  have hst : l.stackTraces = false := by
    unfold Launch.stackTraces
    rw [hfl.1]
    decide +kernel
  exact vt_throwSW (own := "PayOrders") (cls := nsE) (text := "no such turn") (names := nsN) (ik := 303) (is := 305) (ic := 307) (ix := 13) (rx := nsB) (sa := ρ 1000) (A := Ab base) C.1 C.2.1 hst (by decide +kernel) (by decide +kernel) (by decide +kernel) (by decide +kernel) C.2.2.2.2.1 (by decide +kernel) (by decide +kernel) (hts _ ns_w1) (hts _ ns_w2) (hE.2.2.2.1 0 _ rfl) (ns_at hts hET) hot hE.2.2.2.2.2.1 hE.2.2.2.2.2.2.1 hS (hL.1.trans C.2.2.1.symm) (by decide +kernel) (by decide +kernel) (by decide +kernel) (by decide +kernel) (by decide +kernel) (fun x hx => (hex x hx).elim) (show 2 + 3 < 13 from by decide) (show 0 + (13 * (2 + 1) + 43) ≤ 40 * 13 from by decide) (show 0 + 0 + 1 ≤ 1 from by decide) (show 0 + 0 + 6 ≤ 6 from by decide) C.2.2.2.2.2.1
    (fun t _ h1 h2 => ⟨hA, rfl, Wd_more hW h1 h2, Nat.le_trans hS.1 h1, fun q q1 q2 => (h2 q (Nat.lt_of_lt_of_le q1 hS.1)).trans (hS.2.1 q q1 q2)⟩) hS.2.2 (show 0 + 0 + 1 ≤ 1 from by decide) (show 0 + 0 + 6 ≤ 6 from by decide)
end TURN2
