/-! new T[n][m]: the outer row first, then the inner ones -/
def sM (σ : St) (N : Nat) : St := (fun a b => if gN σ ≤ a ∧ a ≤ gN σ + N then 0 else gI σ a b, fun a b => if gN σ ≤ a ∧ a ≤ gN σ + N then 0 else gL σ a b, fun a b => if a = gN σ then (if b < N then some (gN σ + 1 + b) else none) else if gN σ ≤ a ∧ a ≤ gN σ + N then none else gR σ a b, gN σ + 1 + N)
theorem mo_outer (c : ClassId) (N h0 : Nat) : ∀ i : Nat, Jvm.Free.Multi.outerC c N h0 i = arrV c N (fun j => va_rf (if j < i then some (h0 + 1 + j) else none))
  | 0 => by
    show ({ cls := c, slots := Array.replicate N .null, vm := .none } : Cell) = _
    rw [arrV_new]
    refine congrArg (arrV c N) (funext fun j => ?_)
    simp [va_rf]
  | i + 1 => by
    show (Jvm.Free.Multi.outerC c N h0 i).setSlot i (.ref (h0 + 1 + i)) = _
    rw [mo_outer c N h0 i, arrV_store]
    refine congrArg (arrV c N) (funext fun j => ?_)
    by_cases e : j = i
    · subst e
      simp [updV, va_rf]
    · by_cases h : j < i
      · simp [updV, e, h, Nat.lt_succ_of_lt h]
      · simp [updV, e, h, show ¬ j < i + 1 by omega]
section XMUL
variable {d : Nat} {q : MI} {n0 cf sf : Nat} {Rt : Option Value → St → Prop} {pc ce se : Nat} {ls st : List Value} {σ : St}
theorem x_mnew {n t u : Nat} {ty : FieldType} (ht : (t = 7 ∧ u = 0 ∧ ty = .int) ∨ (t = 8 ∧ u = 3 ∧ ty = .long)) (w1 : .classLink q.1.cls n ("[" ++ (FieldType.array ty).toString) ∈ WT) (w2 : .arrayOver (.array ty) ∈ NT) (w3 : .arrayClass ty ∈ WT) (hd : decode q.2.1 pc = .ok (.multianewarray n 2, 4))
    (h : pI st fun x r => pI r fun y r => (sh (gN σ) = (t + 1, y.toNatClampNeg) ∧ (∀ i, i < y.toNatClampNeg → sh (gN σ + 1 + i) = (u + 1, x.toNatClampNeg)) ∧ ¬ y < 0 ∧ ¬ x < 0 ∧ y.toNatClampNeg ≤ 100 ∧ x.toNatClampNeg ≤ 100 ∧ gN σ + y.toNatClampNeg < 107 ∧ ce + (1 + y.toNatClampNeg) ≤ cf ∧ se + (y.toNatClampNeg + y.toNatClampNeg * x.toNatClampNeg) ≤ sf) ∧
      X d q n0 cf sf Rt (pc + 4) (ce + 1 + y.toNatClampNeg) (se + y.toNatClampNeg + y.toNatClampNeg * x.toNatClampNeg) ls (.ref (gN σ) :: r) (sM σ y.toNatClampNeg)) : X d q n0 cf sf Rt pc ce se ls st σ := by
  obtain ⟨x, r, rfl, h1⟩ := pI_sp h
  obtain ⟨y, r, rfl, ⟨hs, hsi, hy0, hx0, hy1, hx1, hN, hm1, hm2⟩, h9⟩ := pI_sp h1
  intro base ρ D aC p l e s m args below meth c H locs lsJ hfl C9 hW hS hL hZ
  intro T9 hT X9
  have hsz := sz_eq X9 hT hW hZ (by omega)
  have hts := C9.2.2.2.2.2.2.2.1
  have hK := C9.2.2.2.2.2.2.2.2.1
  have hρ := C9.2.2.2.2.2.2.2.2.2.2.1
  have hz1 : ρ (gN σ) = H.size := by rw [hρ _ (by omega)]; exact hsz.symm
  have hb : componentBytes ty ≤ 8 ∧ fits ty (defaultValue ty) = true ∧ (defaultValue ty).isDefault = true := by rcases ht with ⟨_, _, rfl⟩ | ⟨_, _, rfl⟩ <;> exact ⟨by decide, rfl, rfl⟩
  have hby : x.toNatClampNeg * componentBytes ty ≤ 536870912 := by
    calc x.toNatClampNeg * componentBytes ty ≤ 100 * 8 := Nat.mul_le_mul hx1 hb.1
      _ ≤ 536870912 := by decide
  obtain ⟨vm₁, cA, comp, -, fA, fC, -, -, X', step⟩ := X9.multianewarray2F C9.1 C9.2.2.2.2.1 (hts _ w1) (show (Cond.arrayOver (.array ty)).before args s = true from C9.2.2.2.2.2.2.2.2.2.2.2.2.2.2.2.2.2 _ w2) (hts _ w3) (g := F0 m pc lsJ ((Value.int x :: Value.int y :: r).map (lf ρ))) rfl (by rw [C9.2.1]; exact hd) rfl hy0 hx0 (by omega) hby (by omega) hb.2.1 hb.2.2 hm1 hm2
  generalize hF : Jvm.Free.Multi.fill (T9.setVm vm₁) cA comp y.toNatClampNeg x.toNatClampNeg (defaultValue ty) y.toNatClampNeg = F at X' step
  have hTh : (T9.setVm vm₁).heap = H := hT
  obtain ⟨f1, f2, -, -⟩ := Jvm.Free.Multi.fill_facts (T9.setVm vm₁) cA comp y.toNatClampNeg x.toNatClampNeg (defaultValue ty) y.toNatClampNeg
  rw [hF, hTh] at f1 f2
  have hold : ∀ z : Nat, z < H.size → F.heap[z]? = H[z]? := fun z hz => by
    have := Jvm.Free.Multi.fill_old (T9.setVm vm₁) cA comp y.toNatClampNeg x.toNatClampNeg (defaultValue ty) (a := z) (by rw [hTh]; exact hz) y.toNatClampNeg
    rw [hF, hTh] at this
    exact this
  have hrow : ∀ j : Nat, j < y.toNatClampNeg → F.heap[H.size + 1 + j]? = some (Jvm.Free.Multi.innerC comp x.toNatClampNeg (defaultValue ty)) := fun j hj => by
    have := Jvm.Free.Multi.fill_inner (T9.setVm vm₁) cA comp y.toNatClampNeg x.toNatClampNeg (defaultValue ty) y.toNatClampNeg j hj
    rw [hF, hTh] at this
    exact this
  rw [mo_outer] at f2
  have hin : ∀ (c : ClassId), Jvm.Free.Multi.innerC c x.toNatClampNeg (defaultValue ty) = arrV c x.toNatClampNeg (fun _ => defaultValue ty) := fun c => by
    unfold Jvm.Free.Multi.innerC
    rw [arrV_new]
  have hcA : cA = aC (t + 1) ∧ comp = aC (u + 1) := by
    rcases ht with ⟨rfl, rfl, rfl⟩ | ⟨rfl, rfl, rfl⟩
    · exact ⟨Option.some.inj (fA.symm.trans (hK.2 7 _ rfl).2), Option.some.inj (fC.symm.trans (hK.2 0 _ rfl).2)⟩
    · exact ⟨Option.some.inj (fA.symm.trans (hK.2 8 _ rfl).2), Option.some.inj (fC.symm.trans (hK.2 3 _ rfl).2)⟩
  obtain ⟨rfl, rfl⟩ := hcA
  have hW1 : Wd base ρ D aC (sM σ y.toNatClampNeg) F.heap := by
    refine ⟨fun k z hz => ?_, (show gN σ + 1 + y.toNatClampNeg ≤ 107 by omega), (show base + (gN σ + 1 + y.toNatClampNeg) ≤ F.heap.size by omega)⟩
    obtain ⟨hk, rfl⟩ := ws_inv hz
    have hk : k < gN σ + 1 + y.toNatClampNeg := hk
    by_cases e1 : k < gN σ
    · have h4 := hW.1 k _ (ws_at (ρ := ρ) (aC := aC) (σ := σ) e1)
      rw [cell_ext (σ' := sM σ y.toNatClampNeg) (σ := σ)]
      · exact h4.kept (hold _ h4.lt)
      · funext b; show (if _ then 0 else gI σ k b) = _; rw [if_neg (by omega)]
      · funext b; show (if _ then 0 else gL σ k b) = _; rw [if_neg (by omega)]
      · funext b; show (if _ then _ else if _ then none else gR σ k b) = _; rw [if_neg (by omega), if_neg (by omega)]
    · by_cases e2 : k = gN σ
      · subst e2
        rw [cell_arr hs]
        show F.heap[ρ (gN σ)]? = some (vp_cell _ _)
        rw [hz1, f2]
        have h5 : arc ρ (sM σ y.toNatClampNeg) (gN σ) (t + 1) = .inr (.inr (.inr (.inr (fun j => (gR (sM σ y.toNatClampNeg) (gN σ) j).map ρ)))) := by
          unfold arc
          rw [if_neg (by omega), if_pos (by omega)]
        rw [h5, vp_cell_q]
        congr 2
        funext j
        show _ = va_rf ((if gN σ = gN σ then (if j < y.toNatClampNeg then some (gN σ + 1 + j) else none) else _).map ρ)
        rw [if_pos rfl]
        by_cases hj : j < y.toNatClampNeg
        · rw [if_pos hj, if_pos hj, Option.map_some, hρ _ (by omega)]
          congr 2
          omega
        · rw [if_neg hj, if_neg hj]
          rfl
      · obtain ⟨i, rfl⟩ : ∃ i, k = gN σ + 1 + i := ⟨k - (gN σ + 1), by omega⟩
        have hi : i < y.toNatClampNeg := by omega
        rw [cell_arr (hsi i hi)]
        show F.heap[ρ (gN σ + 1 + i)]? = some (vp_cell _ _)
        rw [hρ _ (by omega), show base + (gN σ + 1 + i) = H.size + 1 + i by omega, hrow i hi, hin]
        have z1 : gI (sM σ y.toNatClampNeg) (gN σ + 1 + i) = fun _ => 0 := by funext b; exact if_pos (show gN σ ≤ gN σ + 1 + i ∧ gN σ + 1 + i ≤ gN σ + y.toNatClampNeg by omega)
        have z2 : gL (sM σ y.toNatClampNeg) (gN σ + 1 + i) = fun _ => 0 := by funext b; exact if_pos (show gN σ ≤ gN σ + 1 + i ∧ gN σ + 1 + i ≤ gN σ + y.toNatClampNeg by omega)
        rcases ht with ⟨rfl, rfl, rfl⟩ | ⟨rfl, rfl, rfl⟩
        · show _ = some (arrV _ _ (fun j => .int (gI (sM σ y.toNatClampNeg) (gN σ + 1 + i) j)))
          rw [z1]
          rfl
        · show _ = some (arrV _ _ (fun j => .long (gL (sM σ y.toNatClampNeg) (gN σ + 1 + i) j)))
          rw [z2]
          rfl
  obtain ⟨t2, a1, b1⟩ := h9 base ρ D aC p l e s m args below meth c F.heap locs lsJ hfl C9 hW1 ⟨by rw [f1]; have := hS.1; omega, fun z h1 h2 => (hold z (Nat.lt_of_lt_of_le h1 hS.1)).trans (hS.2.1 z h1 h2), hS.2.2⟩ hL ⟨hZ.1, by have := hZ.2; show n0 + (ce + 1 + y.toNatClampNeg) ≤ gN σ + 1 + y.toNatClampNeg; omega⟩ F rfl X'
  refine ⟨t2, step t2 ?_, b1⟩
  have e : T9.heap.size = ρ (gN σ) := by rw [hT]; exact hz1.symm
  rw [e]
  exact a1
end XMUL
