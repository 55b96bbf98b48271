/-! THE MINI MACHINE: a state is numbers by (cell, slot); cells are numbered in the order in which the law makes them -/
def WT : List Cond := lw_tbl.filter goodWord
theorem WT_in {w : Cond} (h : w ∈ WT) : w ∈ lw_tbl := (List.mem_filter.mp h).1
theorem WT_good : GoodIn WT WT := fun w h => ⟨h, good_of_word (List.mem_filter.mp h).2⟩
/-- a method: name, bytes, locals, what it answers -/
abbrev MI : Type := MethodName × ByteArray × Nat × Option FieldType
/-- an instruction: itself, the next pc, its kind, numbers, a word of the tables -/
abbrev Ent : Type := Instr × Nat × Nat × List Nat × Cond
def St : Type := (Nat → Nat → Int32) × (Nat → Nat → Int64) × (Nat → Nat → Option Nat) × Nat
def gI (σ : St) : Nat → Nat → Int32 := σ.1
def gL (σ : St) : Nat → Nat → Int64 := σ.2.1
def gR (σ : St) : Nat → Nat → Option Nat := σ.2.2.1
def gN (σ : St) : Nat := σ.2.2.2
def u2 {α : Type} (f : Nat → Nat → α) (k j : Nat) (v : α) : Nat → Nat → α := fun a b => if a = k ∧ b = j then v else f a b
def sI (σ : St) (k j : Nat) (v : Int32) : St := (u2 σ.1 k j v, σ.2)
def sL (σ : St) (k j : Nat) (v : Int64) : St := (σ.1, u2 σ.2.1 k j v, σ.2.2)
def sR (σ : St) (k j : Nat) (v : Option Nat) : St := (σ.1, σ.2.1, u2 σ.2.2.1 k j v, σ.2.2.2)
/-- one cell more, all of it 0 -/
def sN (σ : St) : St := (fun a b => if a = gN σ then 0 else gI σ a b, fun a b => if a = gN σ then 0 else gL σ a b, fun a b => if a = gN σ then none else gR σ a b, gN σ + 1)
/-- shapes: (0, class), (kind of array, length): 1 int 2 byte 3 boolean 4 long 5 Table 6 Payer 7 Order 8 int[] 9 long[] -/
def shF : List (Nat × Nat) := [(0, 1), (3, 6), (1, 6), (1, 6), (1, 6), (1, 6), (1, 6)]
def shO : List (Nat × Nat) := [(0, 3), (0, 3), (0, 3), (0, 3), (0, 3), (0, 3)]
def shT : List (Nat × Nat) := [(0, 5), (1, 6), (1, 6)]
def shD : List (Nat × Nat) := [(0, 0), (5, 3), (6, 3), (7, 6)] ++ (shT ++ (shT ++ (shT ++ ([(0, 4), (0, 4), (0, 4)] ++ shO))))
def shL : List (Nat × Nat) := [(0, 9), (0, 6), (2, 500), (0, 7), (9, 3), (4, 6), (4, 6), (4, 6), (1, 3)] ++ (shF ++ ([(0, 8), (7, 6)] ++ (shF ++ (shO ++ ([(0, 2), (8, 12)] ++ (List.replicate 12 (1, 17) ++ (shD ++ (shD ++ [(0, 10), (2, 500), (1, 100), (1, 100), (4, 12), (1, 12), (1, 12), (1, 6), (1, 3), (1, 3), (1, 3), (3, 6), (1, 6), (1, 6), (1, 60), (1, 72), (1, 72), (4, 1)]))))))))
def sh (k : Nat) : Nat × Nat := shL.getD k (99, 0)
def aty (t : Nat) : FieldType := [FieldType.int, .int, .byte, .boolean, .long, .object "PayOrders$Table", .object "PayOrders$Payer", .object "PayOrders$Order", .array .int, .array .long].getD t .int
def tyL : List (Nat → FieldType) := [tyX0, tyX1, tyX2, tyX3, tyX4, tyX5, tyX6, tyX7, tyX8, tyX9, tyX10]
def tyOf (ci j : Nat) : FieldType := (tyL.getD ci (fun _ => .int)) j
def nOf (ci : Nat) : Nat := match vwCl[ci]? with
  | some q => q.2.2
  | none => 0
def fv (ρ : Nat → Nat) (σ : St) (k j : Nat) : FieldType → Value
  | .long => .long (gL σ k j)
  | .object _ => va_rf ((gR σ k j).map ρ)
  | .array _ => va_rf ((gR σ k j).map ρ)
  | _ => .int (gI σ k j)
def arc (ρ : Nat → Nat) (σ : St) (k t : Nat) : (Nat → Int32) ⊕ (Nat → Int64) ⊕ (Nat → UInt32) ⊕ (Nat → UInt64) ⊕ (Nat → Option Nat) :=
  if t = 4 then .inr (.inl (gL σ k)) else if 5 ≤ t then .inr (.inr (.inr (.inr (fun j => (gR σ k j).map ρ)))) else .inl (gI σ k)
def cellE (ρ : Nat → Nat) (aC : Nat → ClassId) (σ : St) (k : Nat) : va_E :=
  if (sh k).1 = 0 then .inr ((sh k).2, (List.range (nOf (sh k).2)).map (fun j => fv ρ σ k j (tyOf (sh k).2 j))) else .inl (aC (sh k).1, (sh k).2, arc ρ σ k (sh k).1)
def wsOf (ρ : Nat → Nat) (aC : Nat → ClassId) (σ : St) : va_W := (List.range (gN σ)).map (fun k => (ρ k, cellE ρ aC σ k))
def tysOf (aC : Nat → ClassId) : List (ClassId × FieldType) := (List.range 9).map (fun t => (aC (t + 1), aty (t + 1)))
def Ab (base : Nat) : Nat → Prop := fun q => base ≤ q
/-- the String constants, in a row; their texts; the JDK's statics -/
def strT : List (String × Nat × String) := [("PayOrders", 305, "no such turn"), ("PayOrdersModel", 146, "desk"), ("PayOrdersModel", 166, "keep"), ("PayOrdersModel", 172, "part"), ("PayOrdersModel", 174, "share"), ("PayOrdersModel", 176, "even"), ("PayOrdersModel", 178, "parts"), ("PayOrdersModel", 151, "table"), ("PayOrdersModel", 156, "payer"), ("PayOrdersModel", 161, "order"), ("PayOrdersModel", 184, "all"), ("PayOrdersModel", 196, "steps"), ("PayOrdersModel", 198, "from"), ("PayOrdersModel", 200, "take"), ("PayOrdersModel", 202, "weeks"), ("PayOrdersModel", 204, "rank"), ("PayOrdersModel", 206, "total"), ("PayOrdersModel", 216, "sum"), ("PayOrdersModel", 212, "at")]
def sbyt : List (List Int32) := strT.map (fun q => q.2.2.toList.map (fun ch => Int32.ofNat ch.toNat))
def slen : List Nat := sbyt.map List.length
def stT : List (String × String × String × Int32) := [("java/lang/String", "COMPACT_STRINGS", "Z", 1), ("java/lang/StringUTF16", "$assertionsDisabled", "Z", 1)]
/-- words that aren't kept as they stand: links of nest mates, arrays over classes -/
def NT : List Cond := lw_tbl.filter fun w => match w with
  | .methodLinkNest _ _ _ _ => true
  | .arrayOver _ => true
  | _ => false
/-- what a state has besides the cells: where they begin, the String constants, the statics -/
def Ex (base : Nat) (ρ : Nat → Nat) (U : State) : Prop :=
  base ≤ U.heap.size ∧ (∀ k, k < 1000 → ρ k = base + k) ∧ vk_S 19 slen sbyt (fun i => ρ (1000 + i)) (fun i => ρ (1100 + i)) (Ab base) U U.heap ∧
  (∀ (i : Nat) (q : String × Nat × String), strT[i]? = some q → vk_R q.1 q.2.1 q.2.2 (ρ (1000 + i)) U) ∧ (∀ q ∈ stT, va_Z q.1 q.2.1 q.2.2.1 (.int q.2.2.2) (Ab base) U U.heap) ∧
  vx_Zq Bundle.tN "UNASSIGNED_STACK" Bundle.steD (Ab base) U U.heap ∧ vx_Zq Bundle.tN "SUPPRESSED_SENTINEL" Bundle.listD (Ab base) U U.heap ∧
  (va_Z "jdk/internal/util/Preconditions" "SIOOBE_FORMATTER" "Ljava/util/function/BiFunction;" .null (Ab base) U U.heap ∨ va_Z "jdk/internal/util/Preconditions" "SIOOBE_FORMATTER" "Ljava/util/function/BiFunction;" (.ref (ρ 1999)) (Ab base) U U.heap) ∧ (∀ w ∈ NT, va_Nw w U)
def Wd (base : Nat) (ρ : Nat → Nat) (D : va_G) (aC : Nat → ClassId) (σ : St) (H : Heap) : Prop :=
  va_P D vwCl (wsOf ρ aC σ) H ∧ gN σ ≤ 107 ∧ base + gN σ ≤ H.size
def lf (ρ : Nat → Nat) : Value → Value
  | .ref k => .ref (ρ k)
  | v => v
def Lo (ρ : Nat → Nat) (ls : List Value) (lsJ : Array Slot) (nL : Nat) : Prop := lsJ.size = nL ∧ lv_wf lsJ ∧ ls.length = nL ∧ ∀ (i : Nat) (v : Value), ls[i]? = some v → v ≠ .null → lsJ[i]? = some (.val (lf ρ v))
def Cx (q : MI) (base : Nat) (ρ : Nat → Nat) (D : va_G) (aC : Nat → ClassId) (p : Program) (s : State) (m : MethodId) (args : Array Value) (meth : Method) (c : Code) : Prop :=
  p.tables.exec = Jvm.exec ∧ c.code = q.2.1 ∧ c.maxLocals = q.2.2.1 ∧ meth.sig.returnType = q.2.2.2 ∧ s.vm.findClass q.1.cls = some m.cls ∧ meth.locks = false ∧ meth.name = q.1.name ∧ (∀ w ∈ WT, w.before args s = true) ∧ va_K D vwCl (tysOf aC) s ∧ Ex base ρ s
def rmOf (d cf sf : Nat) : Room := { frames := d, cells := cf, slots := sf, locals := 40 * d }
def Qf (base : Nat) (ρ : Nat → Nat) (D : va_G) (aC : Nat → ClassId) (n0 mc : Nat) (Rt : Option Value → St → Prop) : Array Value → State → Outcome → State → Prop := fun _ st o t =>
  (∃ (r : Option Value) (σ' : St), o = .returned (r.map (lf ρ)) ∧ Rt r σ' ∧ Wd base ρ D aC σ' t.heap ∧ n0 + mc ≤ gN σ') ∧ va_F (Ab base) st t
def Pf (base : Nat) (ρ : Nat → Nat) (D : va_G) (aC : Nat → ClassId) (mc : Nat) (as : List Value) (σ : St) : Array Value → State → Prop := fun v U =>
  v = (as.map (lf ρ)).toArray ∧ Wd base ρ D aC σ U.heap ∧ (0 < mc → U.heap.size ≤ base + gN σ) ∧ va_K D vwCl (tysOf aC) U ∧ Ex base ρ U
/-- a method called with these values in this state answers so that Rt holds -/
def Con (d : Nat) (q : MI) (mc ms : Nat) (as : List Value) (σ : St) (Rt : Option Value → St → Prop) : Prop :=
  ∀ (base : Nat) (ρ : Nat → Nat) (D : va_G) (aC : Nat → ClassId) (l : Launch), l.flags = flags0 →
    Met l q.1 (.code q.1 q.2.1 q.2.2.1 q.2.2.2 :: WT) (rmOf d mc ms) (Pf base ρ D aC mc as σ) (Qf base ρ D aC (gN σ) mc Rt) mc ms (Ab base)
/-- the method q, now at pc with these locals and this stack, ends so that Rt holds -/
def X (d : Nat) (q : MI) (n0 cf sf : Nat) (Rt : Option Value → St → Prop) (pc ce se : Nat) (ls st : List Value) (σ : St) : Prop :=
  ∀ (base : Nat) (ρ : Nat → Nat) (D : va_G) (aC : Nat → ClassId) (p : Program) (l : Launch) (e : Env) (s : State) (m : MethodId) (args : Array Value) (below : List Frame) (meth : Method) (c : Code) (H : Heap) (locs : List Loc) (lsJ : Array Slot),
    l.flags = flags0 → Cx q base ρ D aC p s m args meth c → Wd base ρ D aC σ H → va_S (Ab base) s.heap H locs → Lo ρ ls lsJ q.2.2.1 → ((0 < cf → s.heap.size ≤ base + n0) ∧ n0 + ce ≤ gN σ) →
    W p l e (rmOf d cf sf) s m args below meth c H locs ce se (MQ below (Qf base ρ D aC n0 cf Rt) args s cf sf (Ab base)) (F0 m pc lsJ (st.map (lf ρ)))
/-! stack and locals, goal first -/
def pI (st : List Value) (f : Int32 → List Value → Prop) : Prop := match st with
  | .int x :: r => f x r
  | _ => False
def pL (st : List Value) (f : Int64 → List Value → Prop) : Prop := match st with
  | .long x :: r => f x r
  | _ => False
def pR (st : List Value) (f : Nat → List Value → Prop) : Prop := match st with
  | .ref x :: r => f x r
  | _ => False
def p1 (st : List Value) (f : Value → List Value → Prop) : Prop := match st with
  | v :: r => v.category = 1 ∧ f v r
  | _ => False
def iI (ls : List Value) (i : Nat) (f : Int32 → Prop) : Prop := match ls[i]? with
  | some (.int x) => f x
  | _ => False
def iL (ls : List Value) (i : Nat) (f : Int64 → Prop) : Prop := match ls[i]? with
  | some (.long x) => f x
  | _ => False
def iR (ls : List Value) (i : Nat) (f : Nat → Prop) : Prop := match ls[i]? with
  | some (.ref x) => f x
  | _ => False
def clr (ls : List Value) : Nat → List Value
  | 0 => ls
  | i + 1 => match ls[i]? with
    | some v => if v.category = 2 then ls.set i .null else ls
    | none => ls
def set1 (ls : List Value) (i : Nat) (v : Value) : List Value := (clr ls i).set i v
def set2 (ls : List Value) (i : Nat) (v : Value) : List Value := ((clr ls i).set i v).set (i + 1) .null
def rfV (o : Option Nat) : Value := match o with
  | some k => .ref k
  | none => .null
def cats (st : List Value) : Nat := (st.map fun v => v.category).sum
def cl (st : List Value) (n : Nat) (f : List Value → List Value → Prop) : Prop := n ≤ st.length ∧ f (st.take n).reverse (st.drop n)
def sw (x : Int) (K : Nat → Prop) : Int → List Nat → Prop
  | _, [] => True
  | lo, t :: ts => (x = lo → K t) ∧ sw x K (lo + 1) ts
theorem pI_sp {st : List Value} {f : Int32 → List Value → Prop} (h : pI st f) : ∃ x r, st = .int x :: r ∧ f x r := by
  unfold pI at h
  split at h
  · exact ⟨_, _, rfl, h⟩
  · exact h.elim
theorem pL_sp {st : List Value} {f : Int64 → List Value → Prop} (h : pL st f) : ∃ x r, st = .long x :: r ∧ f x r := by
  unfold pL at h
  split at h
  · exact ⟨_, _, rfl, h⟩
  · exact h.elim
theorem pR_sp {st : List Value} {f : Nat → List Value → Prop} (h : pR st f) : ∃ (x : Nat) (r : List Value), st = .ref x :: r ∧ f x r := by
  unfold pR at h
  split at h
  · exact ⟨_, _, rfl, h⟩
  · exact h.elim
theorem p1_sp {st : List Value} {f : Value → List Value → Prop} (h : p1 st f) : ∃ x r, st = x :: r ∧ x.category = 1 ∧ f x r := by
  unfold p1 at h
  split at h
  · exact ⟨_, _, rfl, h.1, h.2⟩
  · exact h.elim
theorem iI_sp {ls : List Value} {i : Nat} {f : Int32 → Prop} (h : iI ls i f) : ∃ x, ls[i]? = some (.int x) ∧ f x := by
  unfold iI at h
  split at h
  · exact ⟨_, by assumption, h⟩
  · exact h.elim
theorem iL_sp {ls : List Value} {i : Nat} {f : Int64 → Prop} (h : iL ls i f) : ∃ x, ls[i]? = some (.long x) ∧ f x := by
  unfold iL at h
  split at h
  · exact ⟨_, by assumption, h⟩
  · exact h.elim
theorem iR_sp {ls : List Value} {i : Nat} {f : Nat → Prop} (h : iR ls i f) : ∃ x : Nat, ls[i]? = some (.ref x) ∧ f x := by
  unfold iR at h
  split at h
  · exact ⟨_, by assumption, h⟩
  · exact h.elim
theorem lf_cat (ρ : Nat → Nat) (v : Value) : (lf ρ v).category = v.category := by cases v <;> rfl
theorem cats_lf (ρ : Nat → Nat) (st : List Value) : ((st.map (lf ρ)).map fun v => v.category).sum = cats st := by
  unfold cats
  rw [List.map_map]
  congr 1
  exact List.map_congr_left fun v _ => lf_cat ρ v
theorem Lo.at {ρ : Nat → Nat} {ls : List Value} {lsJ : Array Slot} {nL i : Nat} {v : Value} (h : Lo ρ ls lsJ nL) (hv : ls[i]? = some v) (hn : v ≠ .null) : lsJ[i]? = some (.val (lf ρ v)) := h.2.2.2 i v hv hn
def prs (ρ : Nat → Nat) (ls : List Value) : List (Nat × Value) := (List.range ls.length).filterMap (fun i => match ls[i]? with
  | some v => if v = .null then none else some (i, lf ρ v)
  | none => none)
theorem prs_mem {ρ : Nat → Nat} {ls : List Value} {i : Nat} {v : Value} (h : ls[i]? = some v) (hn : v ≠ .null) : (i, lf ρ v) ∈ prs ρ ls := by
  refine List.mem_filterMap.mpr ⟨i, List.mem_range.mpr (List.getElem?_eq_some_iff.mp h).1, ?_⟩
  simp only [h, hn, if_false]
theorem Lo.has {ρ : Nat → Nat} {ls : List Value} {lsJ : Array Slot} {nL : Nat} (h : Lo ρ ls lsJ nL) : lv_has lsJ nL (prs ρ ls) := by
  refine ⟨h.1, h.2.1, fun q hq => ?_⟩
  obtain ⟨i, -, hi⟩ := List.mem_filterMap.mp hq
  cases hv : ls[i]? with
  | none => simp [hv] at hi
  | some v =>
    by_cases hn : v = .null
    · simp [hv, hn] at hi
    · simp only [hv, hn, if_false, Option.some.injEq] at hi
      subst hi
      exact h.2.2.2 i v hv hn
theorem clr_len (ls : List Value) (i : Nat) : (clr ls i).length = ls.length := by
  unfold clr
  split
  · rfl
  · split
    · split <;> simp
    · rfl
theorem clr_at {ls : List Value} {i j : Nat} {w : Value} (h : (clr ls i)[j]? = some w) (hw : w ≠ .null) : ls[j]? = some w ∧ ¬ (j + 1 = i ∧ w.category = 2) := by
  unfold clr at h
  split at h
  · exact ⟨h, fun q => by omega⟩
  · rename_i i
    split at h
    · rename_i v hv
      split at h
      · rename_i hc
        by_cases e : j = i
        · subst e
          rw [List.getElem?_set_self (List.getElem?_eq_some_iff.mp hv).1] at h
          exact absurd (Option.some.inj h).symm hw
        · rw [List.getElem?_set_ne (Ne.symm e)] at h
          exact ⟨h, fun q => e (by omega)⟩
      · rename_i hc
        refine ⟨h, fun q => ?_⟩
        have : j = i := by omega
        subst this
        rw [hv] at h
        cases h
        exact hc q.2
    · rename_i hv
      refine ⟨h, fun q => ?_⟩
      have : j = i := by omega
      subst this
      rw [hv] at h
      cases h
theorem Lo_set1 {ρ : Nat → Nat} {ls : List Value} {lsJ lsJ' : Array Slot} {nL i : Nat} {v : Value} (h : Lo ρ ls lsJ nL) (h' : lv_has lsJ' nL ((i, lf ρ v) :: (prs ρ ls).filter (fun q => !(q.1 == i) && !(q.1 + 1 == i && q.2.category == 2)))) : Lo ρ (set1 ls i v) lsJ' nL := by
  refine ⟨h'.1, h'.2.1, by unfold set1; rw [List.length_set, clr_len]; exact h.2.2.1, fun j w hj hw => ?_⟩
  unfold set1 at hj
  by_cases e : j = i
  · subst e
    have hl : j < (clr ls j).length := by
      have := (List.getElem?_eq_some_iff.mp hj).1
      rwa [List.length_set] at this
    rw [List.getElem?_set_self hl] at hj
    cases hj
    exact h'.2.2 _ List.mem_cons_self
  · rw [List.getElem?_set_ne (Ne.symm e)] at hj
    obtain ⟨h1, h2⟩ := clr_at hj hw
    refine h'.2.2 (j, lf ρ w) (List.mem_cons_of_mem _ (List.mem_filter.mpr ⟨prs_mem h1 hw, ?_⟩))
    simp only [lf_cat]
    simp [e]
    exact Decidable.not_and_iff_or_not.mp h2
theorem Lo_set2 {ρ : Nat → Nat} {ls : List Value} {lsJ lsJ' : Array Slot} {nL i : Nat} {v : Value} (h : Lo ρ ls lsJ nL) (h' : lv_has lsJ' nL ((i, lf ρ v) :: (prs ρ ls).filter (fun q => !(q.1 == i) && (!(q.1 == i + 1) && !(q.1 + 1 == i && q.2.category == 2))))) : Lo ρ (set2 ls i v) lsJ' nL := by
  refine ⟨h'.1, h'.2.1, by unfold set2; rw [List.length_set, List.length_set, clr_len]; exact h.2.2.1, fun j w hj hw => ?_⟩
  unfold set2 at hj
  by_cases e2 : j = i + 1
  · subst e2
    have hl := (List.getElem?_eq_some_iff.mp hj).1
    rw [List.length_set] at hl
    rw [List.getElem?_set_self hl] at hj
    exact absurd (Option.some.inj hj).symm hw
  · rw [List.getElem?_set_ne (Ne.symm e2)] at hj
    by_cases e : j = i
    · subst e
      have hl : j < (clr ls j).length := by
        have := (List.getElem?_eq_some_iff.mp hj).1
        rwa [List.length_set] at this
      rw [List.getElem?_set_self hl] at hj
      cases hj
      exact h'.2.2 _ List.mem_cons_self
    · rw [List.getElem?_set_ne (Ne.symm e)] at hj
      obtain ⟨h1, h2⟩ := clr_at hj hw
      refine h'.2.2 (j, lf ρ w) (List.mem_cons_of_mem _ (List.mem_filter.mpr ⟨prs_mem h1 hw, ?_⟩))
      simp only [lf_cat]
      simp [e, e2]
      exact Decidable.not_and_iff_or_not.mp h2
