section START1
variable {args : Array Value} {s : State}
theorem tb_in {i : Nat} {w : Cond} (h : lw_tbl[i]? = some w) : w ∈ lw_tbl := List.mem_of_getElem? h
theorem arr_p {ty : FieldType} (h : (Cond.arrayClass ty).before args s = true) (hp : ∀ C, ty ≠ .object C) : ∃ cA, ArrOfT s cA ty ∧ va_RA s cA ty := by
  obtain ⟨c, k, comp, h1, h2, h3⟩ := Cond.arrayClass_spec h
  refine ⟨c, fun n z => ⟨fun k h => (by cases h), k, h2, comp, h3⟩, ?_⟩
  cases ty <;> first | exact h1 | exact absurd rfl (hp _)
theorem arr_o {C : String} (h : (Cond.arrayOver (.object C)).before args s = true) : ∃ cA, ArrOfT s cA (.object C) ∧ va_RA s cA (.object C) := by
  obtain ⟨comp, c, k, h1, h2, h3, h4, h5⟩ := Cond.arrayOver_spec h
  exact ⟨c, fun n z => ⟨fun k h => (by cases h), k, h3, comp, h4⟩, k, comp, h3, h4, h1, h5⟩
theorem arr_a {t : FieldType} (h : (Cond.arrayOver (.array t)).before args s = true) : ∃ cA, ArrOfT s cA (.array t) ∧ va_RA s cA (.array t) := by
  obtain ⟨comp, c, k, h1, h2, h3, h4, h5⟩ := arrayOverA_spec h
  exact ⟨c, fun n z => ⟨fun k h => (by cases h), k, h3, comp, h4⟩, h5⟩
theorem st_arr (hts : ∀ w ∈ lw_tbl, w.before args s = true) : ∃ aC : Nat → ClassId, ∀ (k : Nat) (q : ClassId × FieldType), (tysOf aC)[k]? = some q → ArrOfT s q.1 q.2 ∧ va_RA s q.1 q.2 := by
  obtain ⟨c1, a1⟩ := arr_p (hts (.arrayClass .int) (tb_in (i := 178) (by decide +kernel))) (fun C z => by cases z)
  obtain ⟨c2, a2⟩ := arr_p (hts (.arrayClass .byte) (tb_in (i := 136) (by decide +kernel))) (fun C z => by cases z)
  obtain ⟨c3, a3⟩ := arr_p (hts (.arrayClass .boolean) (tb_in (i := 223) (by decide +kernel))) (fun C z => by cases z)
  obtain ⟨c4, a4⟩ := arr_p (hts (.arrayClass .long) (tb_in (i := 177) (by decide +kernel))) (fun C z => by cases z)
  obtain ⟨c5, a5⟩ := arr_o (hts (.arrayOver (.object "PayOrders$Table")) (tb_in (i := 327) (by decide +kernel)))
  obtain ⟨c6, a6⟩ := arr_o (hts (.arrayOver (.object "PayOrders$Payer")) (tb_in (i := 329) (by decide +kernel)))
  obtain ⟨c7, a7⟩ := arr_o (hts (.arrayOver (.object "PayOrders$Order")) (tb_in (i := 231) (by decide +kernel)))
  obtain ⟨c8, a8⟩ := arr_a (hts (.arrayOver (.array .int)) (tb_in (i := 309) (by decide +kernel)))
  obtain ⟨c9, a9⟩ := arr_a (hts (.arrayOver (.array .long)) (tb_in (i := 144) (by decide +kernel)))
  refine ⟨fun t => if t = 1 then c1 else if t = 2 then c2 else if t = 3 then c3 else if t = 4 then c4 else if t = 5 then c5 else if t = 6 then c6 else if t = 7 then c7 else if t = 8 then c8 else c9, fun k q hq => ?_⟩
  match k, hq with
  | 0, hq => cases hq; exact a1
  | 1, hq => cases hq; exact a2
  | 2, hq => cases hq; exact a3
  | 3, hq => cases hq; exact a4
  | 4, hq => cases hq; exact a5
  | 5, hq => cases hq; exact a6
  | 6, hq => cases hq; exact a7
  | 7, hq => cases hq; exact a8
  | 8, hq => cases hq; exact a9
  | k + 9, hq => simp [tysOf] at hq
theorem ins_in : (vwCl.all fun r => decide (Cond.instantiable r.1 r.2.2 ∈ WT)) = true := by decide +kernel
theorem st_K (hts : ∀ w ∈ lw_tbl, w.before args s = true) : ∃ (D : va_G) (aC : Nat → ClassId), va_K D vwCl (tysOf aC) s := by
  obtain ⟨aC, ha⟩ := st_arr hts
  have hw : ∀ w ∈ WT, w.before args s = true := fun w h => hts w (WT_in h)
  have hk : ∀ (ci : Nat) (q : vw_C), vwCl[ci]? = some q → ∃ (cC : ClassId) (iS : Nat → Nat), u_Kn s q.1 q.2.1 q.2.2 cC iS := by
    intro ci q hq
    obtain ⟨C, T, N⟩ := q
    have h1 := of_decide_eq_true (List.all_eq_true.mp ins_in _ (List.mem_of_getElem? hq))
    exact u_known (C := C) (T := T) (N := N) (n := N) hw (cls_in hq) (hw _ h1)
  obtain ⟨c0, i0, k0⟩ := hk 0 _ rfl
  obtain ⟨c1, i1, k1⟩ := hk 1 _ rfl
  obtain ⟨c2, i2, k2⟩ := hk 2 _ rfl
  obtain ⟨c3, i3, k3⟩ := hk 3 _ rfl
  obtain ⟨c4, i4, k4⟩ := hk 4 _ rfl
  obtain ⟨c5, i5, k5⟩ := hk 5 _ rfl
  obtain ⟨c6, i6, k6⟩ := hk 6 _ rfl
  obtain ⟨c7, i7, k7⟩ := hk 7 _ rfl
  obtain ⟨c8, i8, k8⟩ := hk 8 _ rfl
  obtain ⟨c9, i9, k9⟩ := hk 9 _ rfl
  obtain ⟨c10, i10, k10⟩ := hk 10 _ rfl
  refine ⟨(fun k => if k = 0 then c0 else if k = 1 then c1 else if k = 2 then c2 else if k = 3 then c3 else if k = 4 then c4 else if k = 5 then c5 else if k = 6 then c6 else if k = 7 then c7 else if k = 8 then c8 else if k = 9 then c9 else c10, fun k => if k = 0 then i0 else if k = 1 then i1 else if k = 2 then i2 else if k = 3 then i3 else if k = 4 then i4 else if k = 5 then i5 else if k = 6 then i6 else if k = 7 then i7 else if k = 8 then i8 else if k = 9 then i9 else i10), aC, fun k q hq => ?_, ha⟩
  match k, hq with
  | 0, hq => cases hq; exact k0
  | 1, hq => cases hq; exact k1
  | 2, hq => cases hq; exact k2
  | 3, hq => cases hq; exact k3
  | 4, hq => cases hq; exact k4
  | 5, hq => cases hq; exact k5
  | 6, hq => cases hq; exact k6
  | 7, hq => cases hq; exact k7
  | 8, hq => cases hq; exact k8
  | 9, hq => cases hq; exact k9
  | 10, hq => cases hq; exact k10
  | k + 11, hq => simp [vwCl] at hq
def tmS (i : Nat) : Term := match strT[i]? with
  | some q => .string q.1 q.2.1
  | none => .int 0
theorem fl_ex : ((List.range 19).all fun i => decide (Cond.exactly (tmS i) "java/lang/String" ∈ flatC narrow_1)) = true := by decide +kernel
theorem fl_co : ((List.range 19).all fun i => decide (Cond.eq (.field (tmS i) "java/lang/String" "coder" "B") (.int 0) ∈ flatC narrow_1)) = true := by decide +kernel
theorem fl_ar : ((List.range 19).all fun i => decide (Cond.arrayOf (.field (tmS i) "java/lang/String" "value" "[B") .byte ∈ flatC narrow_1)) = true := by decide +kernel
theorem fl_le : ((List.range 19).all fun i => decide (Cond.eq (.length (.field (tmS i) "java/lang/String" "value" "[B")) (.int (Int32.ofNat (slen.getD i 0))) ∈ flatC narrow_1)) = true := by decide +kernel
theorem fl_el : ((List.range 19).all fun i => (List.range (slen.getD i 0)).all fun j => decide (Cond.eq (.elem (.field (tmS i) "java/lang/String" "value" "[B") (.int (Int32.ofNat j))) (.int ((sbyt.getD i []).getD j 0)) ∈ flatC narrow_1)) = true := by decide +kernel
def neI : List (List Nat) := [[0, 44, 53, 63, 75, 87, 101, 116, 132, 149, 165, 184, 203, 223, 245, 267, 291, 314, 337], [44, 0, 54, 64, 76, 88, 102, 117, 133, 150, 166, 185, 204, 224, 246, 268, 292, 315, 338], [53, 54, 0, 65, 77, 89, 103, 118, 134, 151, 167, 186, 205, 225, 247, 269, 293, 316, 339], [63, 64, 65, 0, 78, 90, 104, 119, 135, 152, 168, 187, 206, 226, 248, 270, 294, 317, 340], [75, 76, 77, 78, 0, 91, 105, 120, 136, 153, 169, 188, 207, 227, 249, 271, 295, 318, 341], [87, 88, 89, 90, 91, 0, 106, 121, 137, 154, 170, 189, 208, 228, 250, 272, 296, 319, 342], [101, 102, 103, 104, 105, 106, 0, 122, 138, 155, 171, 190, 209, 229, 251, 273, 297, 320, 343], [116, 117, 118, 119, 120, 121, 122, 0, 139, 156, 172, 191, 210, 230, 252, 274, 298, 321, 344], [132, 133, 134, 135, 136, 137, 138, 139, 0, 157, 173, 192, 211, 231, 253, 275, 299, 322, 345], [149, 150, 151, 152, 153, 154, 155, 156, 157, 0, 174, 193, 212, 232, 254, 276, 300, 323, 346], [165, 166, 167, 168, 169, 170, 171, 172, 173, 174, 0, 194, 213, 233, 255, 277, 301, 324, 347], [184, 185, 186, 187, 188, 189, 190, 191, 192, 193, 194, 0, 214, 234, 256, 278, 302, 325, 348], [203, 204, 205, 206, 207, 208, 209, 210, 211, 212, 213, 214, 0, 235, 257, 279, 303, 326, 349], [223, 224, 225, 226, 227, 228, 229, 230, 231, 232, 233, 234, 235, 0, 258, 280, 304, 327, 350], [245, 246, 247, 248, 249, 250, 251, 252, 253, 254, 255, 256, 257, 258, 0, 281, 305, 328, 351], [267, 268, 269, 270, 271, 272, 273, 274, 275, 276, 277, 278, 279, 280, 281, 0, 306, 329, 352], [291, 292, 293, 294, 295, 296, 297, 298, 299, 300, 301, 302, 303, 304, 305, 306, 0, 330, 353], [314, 315, 316, 317, 318, 319, 320, 321, 322, 323, 324, 325, 326, 327, 328, 329, 330, 0, 354], [337, 338, 339, 340, 341, 342, 343, 344, 345, 346, 347, 348, 349, 350, 351, 352, 353, 354, 0]]
theorem fl_ne : ((List.range 19).all fun i => (List.range 19).all fun j => decide (i = j) || (decide ((flatC narrow_1)[(neI.getD i []).getD j 0]? = some (Cond.not (Cond.eq (tmS i) (tmS j)))) || decide ((flatC narrow_1)[(neI.getD i []).getD j 0]? = some (Cond.not (Cond.eq (tmS j) (tmS i)))))) = true := by decide +kernel
theorem fl_sr : ((List.range 19).all fun i => match strT[i]? with
  | some q => decide (Cond.stringRef q.1 q.2.1 q.2.2 ∈ lw_tbl)
  | none => false) = true := by decide +kernel
theorem al_at {f : Nat → Bool} {n i : Nat} (h : ((List.range n).all f) = true) (hi : i < n) : f i = true := List.all_eq_true.mp h i (List.mem_range.mpr hi)
theorem st_str (hn : ∀ w ∈ flatC narrow_1, w.before args s = true) (hts : ∀ w ∈ lw_tbl, w.before args s = true) {base : Nat} (hb : base = s.heap.size) : ∃ adK adV : Nat → Nat, vk_S 19 slen sbyt adK adV (Ab base) s s.heap ∧ ∀ i : Nat, i < 19 → (tmS i).eval args s none [] s = some (.ref (adK i)) := by
  refine vk_Sof (args := args) (tm := tmS) ?_ (fun i hi => hn _ (of_decide_eq_true (al_at fl_ex hi))) (fun i hi => hn _ (of_decide_eq_true (al_at fl_co hi))) (fun i hi => hn _ (of_decide_eq_true (al_at fl_ar hi))) (fun i hi => hn _ (of_decide_eq_true (al_at fl_le hi))) (fun i hi j hj => hn _ (of_decide_eq_true (al_at (al_at fl_el hi) hj))) ?_ (fun a ha z => ?_)
  · intro i hi
    have h : ∀ i, i < 19 → slen.getD i 0 < 2 ^ 31 := by decide +kernel
    exact h i hi
  · intro i j hi hj hne
    have h := al_at (al_at fl_ne hi) hj
    rw [decide_eq_false hne, Bool.false_or, Bool.or_eq_true, decide_eq_true_eq, decide_eq_true_eq] at h
    rcases h with h | h
    · exact Or.inl (hn _ (List.mem_of_getElem? h))
    · exact Or.inr (hn _ (List.mem_of_getElem? h))
  · have z : base ≤ a := z
    omega
end START1
