section XARR
variable {d : Nat} {q : MI} {n0 cf sf : Nat} {Rt : Option Value → St → Prop} {pc ce se : Nat} {ls st : List Value} {σ : St}
theorem sh_eq {k t : Nat} (h : (sh k).1 = t + 1) : sh k = (t + 1, (sh k).2) := Prod.ext h rfl
theorem x_iaload (hd : decode q.2.1 pc = .ok (.iaload, 1)) (h : pI st fun i r => pR r fun k r => ((sh k).1 = 1 ∧ k < gN σ ∧ vp_in i (sh k).2) ∧ X d q n0 cf sf Rt (pc + 1) ce se ls (.int (gI σ k i.toNatClampNeg) :: r) σ) : X d q n0 cf sf Rt pc ce se ls st σ := by
  obtain ⟨i, r, rfl, h1⟩ := pI_sp h
  obtain ⟨k, r, rfl, ⟨hs, hk, hi⟩, h⟩ := pR_sp h1
  intro base ρ D aC p l e s m args below meth c H locs lsJ hfl C hW hS hL hZ
  have hw9 := ws_at (ρ := ρ) (aC := aC) hk
  rw [cell_arr (sh_eq hs)] at hw9
  exact va_iald C.1 C.2.1 C.2.2.2.2.2.2.2.2.1 hW.1 k 0 hw9 rfl hi hd (h base ρ D aC p l e s m args below meth c H locs lsJ hfl C hW hS hL hZ)
theorem x_baloadB (hd : decode q.2.1 pc = .ok (.baload, 1)) (h : pI st fun i r => pR r fun k r => ((sh k).1 = 2 ∧ k < gN σ ∧ vp_in i (sh k).2) ∧ X d q n0 cf sf Rt (pc + 1) ce se ls (.int (gI σ k i.toNatClampNeg) :: r) σ) : X d q n0 cf sf Rt pc ce se ls st σ := by
  obtain ⟨i, r, rfl, h1⟩ := pI_sp h
  obtain ⟨k, r, rfl, ⟨hs, hk, hi⟩, h⟩ := pR_sp h1
  intro base ρ D aC p l e s m args below meth c H locs lsJ hfl C hW hS hL hZ
  have hw9 := ws_at (ρ := ρ) (aC := aC) hk
  rw [cell_arr (sh_eq hs)] at hw9
  exact va_bald C.1 C.2.1 C.2.2.2.2.2.2.2.2.1 hW.1 k 1 hw9 rfl hi hd (h base ρ D aC p l e s m args below meth c H locs lsJ hfl C hW hS hL hZ)
theorem x_baloadZ (hd : decode q.2.1 pc = .ok (.baload, 1)) (h : pI st fun i r => pR r fun k r => ((sh k).1 = 3 ∧ k < gN σ ∧ vp_in i (sh k).2) ∧ X d q n0 cf sf Rt (pc + 1) ce se ls (.int (gI σ k i.toNatClampNeg) :: r) σ) : X d q n0 cf sf Rt pc ce se ls st σ := by
  obtain ⟨i, r, rfl, h1⟩ := pI_sp h
  obtain ⟨k, r, rfl, ⟨hs, hk, hi⟩, h⟩ := pR_sp h1
  intro base ρ D aC p l e s m args below meth c H locs lsJ hfl C hW hS hL hZ
  have hw9 := ws_at (ρ := ρ) (aC := aC) hk
  rw [cell_arr (sh_eq hs)] at hw9
  exact va_zald C.1 C.2.1 C.2.2.2.2.2.2.2.2.1 hW.1 k 2 hw9 rfl hi hd (h base ρ D aC p l e s m args below meth c H locs lsJ hfl C hW hS hL hZ)
theorem x_laload (hd : decode q.2.1 pc = .ok (.laload, 1)) (h : pI st fun i r => pR r fun k r => ((sh k).1 = 4 ∧ k < gN σ ∧ vp_in i (sh k).2) ∧ X d q n0 cf sf Rt (pc + 1) ce se ls (.long (gL σ k i.toNatClampNeg) :: r) σ) : X d q n0 cf sf Rt pc ce se ls st σ := by
  obtain ⟨i, r, rfl, h1⟩ := pI_sp h
  obtain ⟨k, r, rfl, ⟨hs, hk, hi⟩, h⟩ := pR_sp h1
  intro base ρ D aC p l e s m args below meth c H locs lsJ hfl C hW hS hL hZ
  have hw9 := ws_at (ρ := ρ) (aC := aC) hk
  rw [cell_arr (sh_eq hs)] at hw9
  exact va_lald C.1 C.2.1 C.2.2.2.2.2.2.2.2.1 hW.1 k 3 hw9 rfl hi hd (h base ρ D aC p l e s m args below meth c H locs lsJ hfl C hW hS hL hZ)
theorem x_aaload (hd : decode q.2.1 pc = .ok (.aaload, 1)) (h : pI st fun i r => pR r fun k r => ((5 ≤ (sh k).1 ∧ (sh k).1 ≤ 9) ∧ k < gN σ ∧ vp_in i (sh k).2) ∧ X d q n0 cf sf Rt (pc + 1) ce se ls (rfV (gR σ k i.toNatClampNeg) :: r) σ) : X d q n0 cf sf Rt pc ce se ls st σ := by
  obtain ⟨i, r, rfl, h1⟩ := pI_sp h
  obtain ⟨k, r, rfl, ⟨hs, hk, hi⟩, h⟩ := pR_sp h1
  intro base ρ D aC p l e s m args below meth c H locs lsJ hfl C hW hS hL hZ
  have hw9 := ws_at (ρ := ρ) (aC := aC) hk
  have hz := h base ρ D aC p l e s m args below meth c H locs lsJ hfl C hW hS hL hZ
  rw [List.map_cons, lf_rfV] at hz
  obtain ⟨t, ht⟩ : ∃ t, (sh k).1 = t + 1 := ⟨(sh k).1 - 1, by omega⟩
  rw [cell_arr (sh_eq ht)] at hw9
  have hlt : i.toNatClampNeg < (sh k).2 := Nat.not_le.mp fun z => hi (Or.inr z)
  have h5 : t = 4 ∨ t = 5 ∨ t = 6 ∨ t = 7 ∨ t = 8 := by omega
  rcases h5 with rfl | rfl | rfl | rfl | rfl
  · exact W.aald (v := va_rf ((gR σ k i.toNatClampNeg).map ρ)) (ty := .object "PayOrders$Table") C.1 C.2.1 (hW.1 k _ hw9) ((C.2.2.2.2.2.2.2.2.1.2 4 _ rfl).1 (sh k).2 (fun j => va_rf ((gR σ k j).map ρ))) rfl (fun z => by cases z) (by show ¬ (i < 0 ∨ (arrV _ _ _).slots.size ≤ _); rw [arrV_size]; exact hi) (by show (arrV _ _ _).slots[_]? = _; rw [arrV_read _ _ hlt]) rfl rfl hd hz
  · exact W.aald (v := va_rf ((gR σ k i.toNatClampNeg).map ρ)) (ty := .object "PayOrders$Payer") C.1 C.2.1 (hW.1 k _ hw9) ((C.2.2.2.2.2.2.2.2.1.2 5 _ rfl).1 (sh k).2 (fun j => va_rf ((gR σ k j).map ρ))) rfl (fun z => by cases z) (by show ¬ (i < 0 ∨ (arrV _ _ _).slots.size ≤ _); rw [arrV_size]; exact hi) (by show (arrV _ _ _).slots[_]? = _; rw [arrV_read _ _ hlt]) rfl rfl hd hz
  · exact W.aald (v := va_rf ((gR σ k i.toNatClampNeg).map ρ)) (ty := .object "PayOrders$Order") C.1 C.2.1 (hW.1 k _ hw9) ((C.2.2.2.2.2.2.2.2.1.2 6 _ rfl).1 (sh k).2 (fun j => va_rf ((gR σ k j).map ρ))) rfl (fun z => by cases z) (by show ¬ (i < 0 ∨ (arrV _ _ _).slots.size ≤ _); rw [arrV_size]; exact hi) (by show (arrV _ _ _).slots[_]? = _; rw [arrV_read _ _ hlt]) rfl rfl hd hz
  · exact W.aald (v := va_rf ((gR σ k i.toNatClampNeg).map ρ)) (ty := .array .int) C.1 C.2.1 (hW.1 k _ hw9) ((C.2.2.2.2.2.2.2.2.1.2 7 _ rfl).1 (sh k).2 (fun j => va_rf ((gR σ k j).map ρ))) rfl (fun z => by cases z) (by show ¬ (i < 0 ∨ (arrV _ _ _).slots.size ≤ _); rw [arrV_size]; exact hi) (by show (arrV _ _ _).slots[_]? = _; rw [arrV_read _ _ hlt]) rfl rfl hd hz
  · exact W.aald (v := va_rf ((gR σ k i.toNatClampNeg).map ρ)) (ty := .array .long) C.1 C.2.1 (hW.1 k _ hw9) ((C.2.2.2.2.2.2.2.2.1.2 8 _ rfl).1 (sh k).2 (fun j => va_rf ((gR σ k j).map ρ))) rfl (fun z => by cases z) (by show ¬ (i < 0 ∨ (arrV _ _ _).slots.size ≤ _); rw [arrV_size]; exact hi) (by show (arrV _ _ _).slots[_]? = _; rw [arrV_read _ _ hlt]) rfl rfl hd hz
theorem x_alen (hd : decode q.2.1 pc = .ok (.arraylength, 1)) (h : pR st fun k r => ((1 ≤ (sh k).1 ∧ (sh k).1 ≤ 9) ∧ k < gN σ) ∧ X d q n0 cf sf Rt (pc + 1) ce se ls (.int (Int32.ofNat (sh k).2) :: r) σ) : X d q n0 cf sf Rt pc ce se ls st σ := by
  obtain ⟨k, r, rfl, ⟨hs, hk⟩, h⟩ := pR_sp h
  intro base ρ D aC p l e s m args below meth c H locs lsJ hfl C hW hS hL hZ
  have hw9 := ws_at (ρ := ρ) (aC := aC) hk
  obtain ⟨t, ht⟩ : ∃ t, (sh k).1 = t + 1 := ⟨(sh k).1 - 1, by omega⟩
  rw [cell_arr (sh_eq ht)] at hw9
  have hT : (tysOf aC)[t]? = some (aC (t + 1), aty (t + 1)) := by
    unfold tysOf
    rw [List.getElem?_map, List.getElem?_range (by omega)]
    rfl
  exact va_alen C.1 C.2.1 C.2.2.2.2.2.2.2.2.1 hW.1 k t hw9 hT rfl hd (h base ρ D aC p l e s m args below meth c H locs lsJ hfl C hW hS hL hZ)
theorem x_iastore (hd : decode q.2.1 pc = .ok (.iastore, 1)) (h : pI st fun x r => pI r fun i r => pR r fun k r => ((sh k).1 = 1 ∧ k < gN σ ∧ vp_in i (sh k).2) ∧ X d q n0 cf sf Rt (pc + 1) ce se ls r (sI σ k i.toNatClampNeg x)) : X d q n0 cf sf Rt pc ce se ls st σ := by
  obtain ⟨x, r, rfl, h1⟩ := pI_sp h
  obtain ⟨i, r, rfl, h2⟩ := pI_sp h1
  obtain ⟨k, r, rfl, ⟨hs, hk, hi⟩, h⟩ := pR_sp h2
  intro base ρ D aC p l e s m args below meth c H locs lsJ hfl C hW hS hL hZ
  have hw9 := ws_at (ρ := ρ) (aC := aC) hk
  rw [cell_arr (sh_eq hs)] at hw9
  have hρ := C.2.2.2.2.2.2.2.2.2.2.1
  refine va_iast C.1 C.2.1 C.2.2.2.2.2.2.2.2.1 hW.1 (ws_D (aC := aC) hρ hW.2.1) hS k 0 hw9 rfl hi hd (fun H1 locs1 hP1 _ hS1 => ?_)
  refine h base ρ D aC p l e s m args below meth c H1 locs1 lsJ hfl C (Wd_next (σ := σ) hρ (Nat.le_trans C.2.2.2.2.2.2.2.2.2.1 hS1.1) hW rfl ?_ hP1) hS1 hL hZ
  refine ws_set rfl (fun a ha => cell_ext (u2_row _ _ _ ha) rfl rfl) ?_
  rw [cell_arr (sh_eq hs)]
  refine congrArg (fun z => Sum.inl (aC 1, (sh k).2, z)) ?_
  show Sum.inl (u2 σ.1 k i.toNatClampNeg x k) = _
  congr 1
  funext b
  by_cases hb : b = i.toNatClampNeg <;> simp [u2, upd, hb, gI, gL]
theorem x_bastoreB (hd : decode q.2.1 pc = .ok (.bastore, 1)) (h : pI st fun x r => pI r fun i r => pR r fun k r => ((sh k).1 = 2 ∧ k < gN σ ∧ vp_in i (sh k).2) ∧ X d q n0 cf sf Rt (pc + 1) ce se ls r (sI σ k i.toNatClampNeg x.toInt8.toInt32)) : X d q n0 cf sf Rt pc ce se ls st σ := by
  obtain ⟨x, r, rfl, h1⟩ := pI_sp h
  obtain ⟨i, r, rfl, h2⟩ := pI_sp h1
  obtain ⟨k, r, rfl, ⟨hs, hk, hi⟩, h⟩ := pR_sp h2
  intro base ρ D aC p l e s m args below meth c H locs lsJ hfl C hW hS hL hZ
  have hw9 := ws_at (ρ := ρ) (aC := aC) hk
  rw [cell_arr (sh_eq hs)] at hw9
  have hρ := C.2.2.2.2.2.2.2.2.2.2.1
  refine va_bast C.1 C.2.1 C.2.2.2.2.2.2.2.2.1 hW.1 (ws_D (aC := aC) hρ hW.2.1) hS k 1 hw9 rfl hi hd (fun H1 locs1 hP1 _ hS1 => ?_)
  refine h base ρ D aC p l e s m args below meth c H1 locs1 lsJ hfl C (Wd_next (σ := σ) hρ (Nat.le_trans C.2.2.2.2.2.2.2.2.2.1 hS1.1) hW rfl ?_ hP1) hS1 hL hZ
  refine ws_set rfl (fun a ha => cell_ext (u2_row _ _ _ ha) rfl rfl) ?_
  rw [cell_arr (sh_eq hs)]
  refine congrArg (fun z => Sum.inl (aC 2, (sh k).2, z)) ?_
  show Sum.inl (u2 σ.1 k i.toNatClampNeg x.toInt8.toInt32 k) = _
  congr 1
  funext b
  by_cases hb : b = i.toNatClampNeg <;> simp [u2, upd, hb, gI, gL, vp_nar_byte]
theorem x_bastoreZ (hd : decode q.2.1 pc = .ok (.bastore, 1)) (h : pI st fun x r => pI r fun i r => pR r fun k r => ((sh k).1 = 3 ∧ k < gN σ ∧ vp_in i (sh k).2 ∧ (x = 0 ∨ x = 1)) ∧ X d q n0 cf sf Rt (pc + 1) ce se ls r (sI σ k i.toNatClampNeg x)) : X d q n0 cf sf Rt pc ce se ls st σ := by
  obtain ⟨x, r, rfl, h1⟩ := pI_sp h
  obtain ⟨i, r, rfl, h2⟩ := pI_sp h1
  obtain ⟨k, r, rfl, ⟨hs, hk, hi, hx⟩, h⟩ := pR_sp h2
  intro base ρ D aC p l e s m args below meth c H locs lsJ hfl C hW hS hL hZ
  have hw9 := ws_at (ρ := ρ) (aC := aC) hk
  rw [cell_arr (sh_eq hs)] at hw9
  have hρ := C.2.2.2.2.2.2.2.2.2.2.1
  refine va_zast C.1 C.2.1 C.2.2.2.2.2.2.2.2.1 hW.1 (ws_D (aC := aC) hρ hW.2.1) hS k 2 hw9 rfl hi hd (fun H1 locs1 hP1 _ hS1 => ?_)
  refine h base ρ D aC p l e s m args below meth c H1 locs1 lsJ hfl C (Wd_next (σ := σ) hρ (Nat.le_trans C.2.2.2.2.2.2.2.2.2.1 hS1.1) hW rfl ?_ hP1) hS1 hL hZ
  refine ws_set rfl (fun a ha => cell_ext (u2_row _ _ _ ha) rfl rfl) ?_
  rw [cell_arr (sh_eq hs)]
  have hx9 : vp_nar .boolean x = x := by rcases hx with rfl | rfl <;> rfl
  refine congrArg (fun z => Sum.inl (aC 3, (sh k).2, z)) ?_
  show Sum.inl (u2 σ.1 k i.toNatClampNeg x k) = _
  congr 1
  funext b
  by_cases hb : b = i.toNatClampNeg <;> simp [u2, upd, hb, gI, gL, hx9]
theorem x_lastore (hd : decode q.2.1 pc = .ok (.lastore, 1)) (h : pL st fun x r => pI r fun i r => pR r fun k r => ((sh k).1 = 4 ∧ k < gN σ ∧ vp_in i (sh k).2) ∧ X d q n0 cf sf Rt (pc + 1) ce se ls r (sL σ k i.toNatClampNeg x)) : X d q n0 cf sf Rt pc ce se ls st σ := by
  obtain ⟨x, r, rfl, h1⟩ := pL_sp h
  obtain ⟨i, r, rfl, h2⟩ := pI_sp h1
  obtain ⟨k, r, rfl, ⟨hs, hk, hi⟩, h⟩ := pR_sp h2
  intro base ρ D aC p l e s m args below meth c H locs lsJ hfl C hW hS hL hZ
  have hw9 := ws_at (ρ := ρ) (aC := aC) hk
  rw [cell_arr (sh_eq hs)] at hw9
  have hρ := C.2.2.2.2.2.2.2.2.2.2.1
  refine va_last C.1 C.2.1 C.2.2.2.2.2.2.2.2.1 hW.1 (ws_D (aC := aC) hρ hW.2.1) hS k 3 hw9 rfl hi hd (fun H1 locs1 hP1 _ hS1 => ?_)
  refine h base ρ D aC p l e s m args below meth c H1 locs1 lsJ hfl C (Wd_next (σ := σ) hρ (Nat.le_trans C.2.2.2.2.2.2.2.2.2.1 hS1.1) hW rfl ?_ hP1) hS1 hL hZ
  refine ws_set rfl (fun a ha => cell_ext rfl (u2_row _ _ _ ha) rfl) ?_
  rw [cell_arr (sh_eq hs)]
  refine congrArg (fun z => Sum.inl (aC 4, (sh k).2, z)) ?_
  show Sum.inr (Sum.inl (u2 σ.2.1 k i.toNatClampNeg x k)) = _
  congr 2
  funext b
  by_cases hb : b = i.toNatClampNeg <;> simp [u2, vp_updL, hb, gI, gL]
end XARR
