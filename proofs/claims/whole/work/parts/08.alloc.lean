/-! new cells, stores of references, switches, Math -/
def f0 : FieldType → Value
  | .long => .long 0
  | .object _ => .null
  | .array _ => .null
  | _ => .int 0
theorem cls_dflt : ((List.range 11).all fun ci => (List.range (nOf ci)).all fun k => decide (f0 (tyOf ci k) = defaultValue (tyOf ci k))) = true := by decide +kernel
theorem fv_f0 {ρ : Nat → Nat} {σ : St} {k j : Nat} (h1 : gI σ k j = 0) (h2 : gL σ k j = 0) (h3 : gR σ k j = none) (ty : FieldType) : fv ρ σ k j ty = f0 ty := by
  cases ty <;> simp only [fv, f0, h1, h2, h3] <;> rfl
theorem sN_old {σ : St} {k : Nat} (h : k ≠ gN σ) : gI (sN σ) k = gI σ k ∧ gL (sN σ) k = gL σ k ∧ gR (sN σ) k = gR σ k := by
  refine ⟨?_, ?_, ?_⟩
  · funext b; show (if k = gN σ then 0 else gI σ k b) = _; rw [if_neg h]
  · funext b; show (if k = gN σ then 0 else gL σ k b) = _; rw [if_neg h]
  · funext b; show (if k = gN σ then none else gR σ k b) = _; rw [if_neg h]
theorem sN_new {σ : St} : gI (sN σ) (gN σ) = (fun _ => 0) ∧ gL (sN σ) (gN σ) = (fun _ => 0) ∧ gR (sN σ) (gN σ) = (fun _ => none) := by
  refine ⟨?_, ?_, ?_⟩
  · funext b; show (if gN σ = gN σ then 0 else gI σ (gN σ) b) = _; rw [if_pos rfl]
  · funext b; show (if gN σ = gN σ then 0 else gL σ (gN σ) b) = _; rw [if_pos rfl]
  · funext b; show (if gN σ = gN σ then none else gR σ (gN σ) b) = _; rw [if_pos rfl]
theorem Wd_push {base : Nat} {ρ : Nat → Nat} {D : va_G} {aC : Nat → ClassId} {σ : St} {H H1 : Heap} (hW : Wd base ρ D aC σ H) (hsz : H.size = base + gN σ) (hN : gN σ < 107) (z1 : H1.size = H.size + 1) (o1 : ∀ x, x < H.size → H1[x]? = H[x]?) (hnew : va_at D vwCl (ρ (gN σ), cellE ρ aC (sN σ) (gN σ)) H1) : Wd base ρ D aC (sN σ) H1 := by
  refine ⟨fun k x hx => ?_, (show gN σ + 1 ≤ 107 by omega), (show base + (gN σ + 1) ≤ H1.size by omega)⟩
  obtain ⟨hk, rfl⟩ := ws_inv hx
  have hk : k < gN σ + 1 := hk
  by_cases e : k = gN σ
  · subst e
    exact hnew
  · obtain ⟨h1, h2, h3⟩ := sN_old e
    rw [cell_ext h1 h2 h3]
    have h4 := hW.1 k _ (ws_at (ρ := ρ) (aC := aC) (σ := σ) (by omega))
    exact h4.kept (o1 _ h4.lt)
theorem sz_eq {base : Nat} {ρ : Nat → Nat} {D : va_G} {aC : Nat → ClassId} {σ : St} {p : Program} {l : Launch} {e : Env} {R : Room} {s : State} {m : MethodId} {args : Array Value} {below : List Frame} {meth : Method} {c : Code} {T : State} {H : Heap} {locs : List Loc} {n0 cf ce se : Nat} (X9 : Stand p l e R s m args below meth c T locs ce se) (hT : T.heap = H) (hW : Wd base ρ D aC σ H) (hZ : (0 < cf → s.heap.size ≤ base + n0) ∧ n0 + ce ≤ gN σ) (hc : 0 < cf) : H.size = base + gN σ := by
  have h1 := X9.heapSize
  have h2 := hZ.1 hc
  have h3 := hZ.2
  have h4 := hW.2.2
  rw [hT] at h1
  omega
section XNEW
variable {d : Nat} {q : MI} {n0 cf sf : Nat} {Rt : Option Value → St → Prop} {pc ce se : Nat} {ls st : List Value} {σ : St}
set_option maxHeartbeats 200000 in
theorem x_new {n ci N : Nat} {C : String} {T : u_T} (hc : vwCl[ci]? = some (C, T, N)) (w1 : .classLink q.1.cls n C ∈ WT) (w2 : .instantiable C N ∈ WT) (w3 : .initialized C ∈ WT) (hd : decode q.2.1 pc = .ok (.new n, 3))
    (h : (sh (gN σ) = (0, ci) ∧ gN σ < 107 ∧ ce + 1 ≤ cf ∧ se + N ≤ sf) ∧ X d q n0 cf sf Rt (pc + 3) (ce + 1) (se + N) ls (.ref (gN σ) :: st) (sN σ)) : X d q n0 cf sf Rt pc ce se ls st σ := by
  obtain ⟨⟨hs, hN, hm1, hm2⟩, h⟩ := h
  intro base ρ D aC p l e s m args below meth c H locs lsJ hfl C9 hW hS hL hZ
  intro T9 hT X9
  have hsz := sz_eq X9 hT hW hZ (by omega)
  have hts := C9.2.2.2.2.2.2.2.1
  have hρ := C9.2.2.2.2.2.2.2.2.2.2.1
  have hKn := C9.2.2.2.2.2.2.2.2.1.1 ci _ hc
  have hl : ci < 11 := (List.getElem?_eq_some_iff.mp hc).1
  refine W.newcK (R := rmOf d cf sf) (cells := ce) (slots := se) (g := F0 m pc lsJ (st.map (lf ρ))) C9.1 C9.2.1 C9.2.2.2.2.1 (hts _ w1) (hts _ w2) (hts _ w3) rfl hd hm1 hm2 hKn.2.1 (h := ρ (gN σ)) (by rw [hρ _ (by omega)]; exact hsz) (fun H1 kC hkC e1 z1 o1 => ?_) T9 hT X9
  have hz1 : ρ (gN σ) = H.size := by rw [hρ _ (by omega)]; exact hsz.symm
  rw [hz1] at z1 o1
  refine h base ρ D aC p l e s m args below meth c H1 locs lsJ hfl C9 (Wd_push hW hsz hN z1 o1 ?_) ⟨Nat.le_trans hS.1 (by omega), fun x h1 h2 => (o1 x (Nat.lt_of_lt_of_le h1 hS.1)).trans (hS.2.1 x h1 h2), hS.2.2⟩ hL ⟨hZ.1, by have := hZ.2; show n0 + (ce + 1) ≤ gN σ + 1; omega⟩
  rw [cell_obj hs]
  refine ⟨_, hc, (u_born (tyOf ci) hts (cls_in hc) hKn hkC e1 (cls_ty hc)).to fun j hj => ?_⟩
  have hj : j < N := hj
  unfold vp_V
  have h1 := fs_at (ρ := ρ) (σ := sN σ) (k := gN σ) (ci := ci) (j := j) (by rw [nOf_eq hc]; exact hj)
  show _ = ((List.range (nOf ci)).map (fun j => fv ρ (sN σ) (gN σ) j (tyOf ci j))).getD j .null
  rw [List.getD_eq_getElem?_getD, h1, Option.getD_some, fv_f0 (by rw [sN_new.1]) (by rw [sN_new.2.1]) (by rw [sN_new.2.2])]
  exact (of_decide_eq_true (List.all_eq_true.mp (List.all_eq_true.mp cls_dflt ci (List.mem_range.mpr hl)) j (List.mem_range.mpr (by rw [nOf_eq hc]; exact hj)))).symm
set_option maxHeartbeats 200000 in
theorem x_newa {t : Nat} {ty : ArrayType} (hty : newarray.typeOf ty = aty (t + 1)) (ht : t < 4) (w : .arrayClass (aty (t + 1)) ∈ WT) (hd : decode q.2.1 pc = .ok (.newarray ty, 2))
    (h : pI st fun x r => (sh (gN σ) = (t + 1, x.toNatClampNeg) ∧ ¬ x < 0 ∧ x.toNatClampNeg ≤ 1000 ∧ gN σ < 107 ∧ ce + 1 ≤ cf ∧ se + x.toNatClampNeg ≤ sf) ∧ X d q n0 cf sf Rt (pc + 2) (ce + 1) (se + x.toNatClampNeg) ls (.ref (gN σ) :: r) (sN σ)) : X d q n0 cf sf Rt pc ce se ls st σ := by
  obtain ⟨x, r, rfl, ⟨hs, hx0, hx1, hN, hm1, hm2⟩, h9⟩ := pI_sp h
  intro base ρ D aC p l e s m args below meth c H locs lsJ hfl C9 hW hS hL hZ
  intro T9 hT X9
  have hsz := sz_eq X9 hT hW hZ (by omega)
  have hts := C9.2.2.2.2.2.2.2.1
  have hK := C9.2.2.2.2.2.2.2.2.1
  have hρ := C9.2.2.2.2.2.2.2.2.2.2.1
  have hz1 : ρ (gN σ) = H.size := by rw [hρ _ (by omega)]; exact hsz.symm
  have hby : x.toNatClampNeg * componentBytes (newarray.typeOf ty) ≤ 536870912 := by
    have hb : componentBytes (newarray.typeOf ty) ≤ 8 := by cases ty <;> decide
    calc x.toNatClampNeg * componentBytes (newarray.typeOf ty) ≤ 1000 * 8 := Nat.mul_le_mul hx1 hb
      _ ≤ 536870912 := by decide
  refine va_newaK (R := rmOf d cf sf) (cells := ce) (slots := se) (g := F0 m pc lsJ ((Value.int x :: r).map (lf ρ))) C9.1 C9.2.1 (by rw [hty]; exact hts _ w) rfl hd rfl hx0 rfl hby hm1 hm2 hz1.symm (fun H1 cA e1 z1 o1 hAr hNm => ?_) T9 hT X9
  rw [hz1] at z1 o1
  refine h9 base ρ D aC p l e s m args below meth c H1 locs lsJ hfl C9 (Wd_push hW hsz hN z1 o1 ?_) ⟨Nat.le_trans hS.1 (by omega), fun x h1 h2 => (o1 x (Nat.lt_of_lt_of_le h1 hS.1)).trans (hS.2.1 x h1 h2), hS.2.2⟩ hL ⟨hZ.1, by have := hZ.2; show n0 + (ce + 1) ≤ gN σ + 1; omega⟩
  rw [cell_arr hs]
  show H1[ρ (gN σ)]? = some (vp_cell _ _)
  rw [e1]
  have h4 : t = 0 ∨ t = 1 ∨ t = 2 ∨ t = 3 := by omega
  rw [hty] at hNm
  rcases h4 with rfl | rfl | rfl | rfl
  · have hcA : cA = aC 1 := Option.some.inj (hNm.symm.trans (hK.2 0 _ rfl).2)
    subst hcA
    rw [hty]
    show some (arrV (aC 1) _ _) = some (arrV (aC 1) _ (fun j => .int (gI (sN σ) (gN σ) j)))
    rw [sN_new.1]
    rfl
  · have hcA : cA = aC 2 := Option.some.inj (hNm.symm.trans (hK.2 1 _ rfl).2)
    subst hcA
    rw [hty]
    show some (arrV (aC 2) _ _) = some (arrV (aC 2) _ (fun j => .int (gI (sN σ) (gN σ) j)))
    rw [sN_new.1]
    rfl
  · have hcA : cA = aC 3 := Option.some.inj (hNm.symm.trans (hK.2 2 _ rfl).2)
    subst hcA
    rw [hty]
    show some (arrV (aC 3) _ _) = some (arrV (aC 3) _ (fun j => .int (gI (sN σ) (gN σ) j)))
    rw [sN_new.1]
    rfl
  · have hcA : cA = aC 4 := Option.some.inj (hNm.symm.trans (hK.2 3 _ rfl).2)
    subst hcA
    rw [hty]
    show some (arrV (aC 4) _ _) = some (arrV (aC 4) _ (fun j => .long (gL (sN σ) (gN σ) j)))
    rw [sN_new.2.1]
    rfl
set_option maxHeartbeats 200000 in
theorem x_anew {n t : Nat} {C : String} (ht : (t = 4 ∧ C = "PayOrders$Table") ∨ (t = 5 ∧ C = "PayOrders$Payer") ∨ (t = 6 ∧ C = "PayOrders$Order")) (w1 : .classLink q.1.cls n C ∈ WT) (w2 : .arrayOver (.object C) ∈ NT) (hd : decode q.2.1 pc = .ok (.anewarray n, 3))
    (h : pI st fun x r => (sh (gN σ) = (t + 1, x.toNatClampNeg) ∧ ¬ x < 0 ∧ x.toNatClampNeg ≤ 1000 ∧ gN σ < 107 ∧ ce + 1 ≤ cf ∧ se + x.toNatClampNeg ≤ sf) ∧ X d q n0 cf sf Rt (pc + 3) (ce + 1) (se + x.toNatClampNeg) ls (.ref (gN σ) :: r) (sN σ)) : X d q n0 cf sf Rt pc ce se ls st σ := by
  obtain ⟨x, r, rfl, ⟨hs, hx0, hx1, hN, hm1, hm2⟩, h9⟩ := pI_sp h
  intro base ρ D aC p l e s m args below meth c H locs lsJ hfl C9 hW hS hL hZ
  intro T9 hT X9
  have hsz := sz_eq X9 hT hW hZ (by omega)
  have hts := C9.2.2.2.2.2.2.2.1
  have hK := C9.2.2.2.2.2.2.2.2.1
  have hρ := C9.2.2.2.2.2.2.2.2.2.2.1
  have hz1 : ρ (gN σ) = H.size := by rw [hρ _ (by omega)]; exact hsz.symm
  refine W.anew (R := rmOf d cf sf) (cells := ce) (slots := se) (g := F0 m pc lsJ ((Value.int x :: r).map (lf ρ))) C9.1 C9.2.1 C9.2.2.2.2.1 (hts _ w1) (va_AO.use (C9.2.2.2.2.2.2.2.2.2.2.2.2.2.2.2.2.2 _ w2)) rfl hd rfl hx0 (by omega) hm1 hm2 (fun cA kA comp f1 f2 f3 f4 => ?_) T9 hT X9
  generalize hH1 : H.push ({ cls := cA, slots := Array.replicate x.toNatClampNeg .null, vm := .none } : Cell) = H1
  have z1 : H1.size = H.size + 1 := by rw [← hH1, Array.size_push]
  have e1 : H1[H.size]? = some (arrV cA x.toNatClampNeg (fun _ => .null)) := by rw [← hH1, Array.getElem?_push_size, ← arrV_new]
  have o1 : ∀ x : Nat, x < H.size → H1[x]? = H[x]? := fun x hq => by rw [← hH1, Array.getElem?_push, if_neg (Nat.ne_of_lt hq)]
  rw [← hz1]
  refine h9 base ρ D aC p l e s m args below meth c H1 locs lsJ hfl C9 (Wd_push hW hsz hN z1 o1 ?_) ⟨Nat.le_trans hS.1 (by omega), fun x h1 h2 => (o1 x (Nat.lt_of_lt_of_le h1 hS.1)).trans (hS.2.1 x h1 h2), hS.2.2⟩ hL ⟨hZ.1, by have := hZ.2; show n0 + (ce + 1) ≤ gN σ + 1; omega⟩
  rw [cell_arr hs]
  show H1[ρ (gN σ)]? = some (vp_cell _ _)
  rw [hz1, e1]
  rcases ht with ⟨rfl, rfl⟩ | ⟨rfl, rfl⟩ | ⟨rfl, rfl⟩
  · obtain ⟨_, _, _, _, _, h4⟩ := (hK.2 4 _ rfl).2
    have hcA : cA = aC 5 := Option.some.inj (f1.symm.trans h4)
    subst hcA
    show some (arrV (aC 5) _ _) = some (arrV (aC 5) _ (fun j => va_rf ((gR (sN σ) (gN σ) j).map ρ)))
    rw [sN_new.2.2]
    rfl
  · obtain ⟨_, _, _, _, _, h4⟩ := (hK.2 5 _ rfl).2
    have hcA : cA = aC 6 := Option.some.inj (f1.symm.trans h4)
    subst hcA
    show some (arrV (aC 6) _ _) = some (arrV (aC 6) _ (fun j => va_rf ((gR (sN σ) (gN σ) j).map ρ)))
    rw [sN_new.2.2]
    rfl
  · obtain ⟨_, _, _, _, _, h4⟩ := (hK.2 6 _ rfl).2
    have hcA : cA = aC 7 := Option.some.inj (f1.symm.trans h4)
    subst hcA
    show some (arrV (aC 7) _ _) = some (arrV (aC 7) _ (fun j => va_rf ((gR (sN σ) (gN σ) j).map ρ)))
    rw [sN_new.2.2]
    rfl
theorem x_aastore (hd : decode q.2.1 pc = .ok (.aastore, 1)) (h : pR st fun v r => pI r fun i r => pR r fun k r => ((((sh k).1 = 5 ∧ sh v = (0, 5)) ∨ ((sh k).1 = 6 ∧ sh v = (0, 4)) ∨ ((sh k).1 = 7 ∧ sh v = (0, 3))) ∧ k < gN σ ∧ v < gN σ ∧ vp_in i (sh k).2) ∧ X d q n0 cf sf Rt (pc + 1) ce se ls r (sR σ k i.toNatClampNeg (some v))) : X d q n0 cf sf Rt pc ce se ls st σ := by
  obtain ⟨v, r, rfl, h1⟩ := pR_sp h
  obtain ⟨i, r, rfl, h2⟩ := pI_sp h1
  obtain ⟨k, r, rfl, ⟨hs, hk, hv, hi⟩, h⟩ := pR_sp h2
  intro base ρ D aC p l e s m args below meth c H locs lsJ hfl C hW hS hL hZ
  have hw9 := ws_at (ρ := ρ) (aC := aC) hk
  have hv9 := ws_at (ρ := ρ) (aC := aC) hv
  have hρ := C.2.2.2.2.2.2.2.2.2.2.1
  have hK := C.2.2.2.2.2.2.2.2.1
  have kk : ∀ (t : Nat), (sh k).1 = t + 1 → 4 ≤ t → ∀ (H1 : Heap) (locs1 : List Loc), va_P D vwCl ((wsOf ρ aC σ).set k (ρ k, .inl (aC (t + 1), (sh k).2, .inr (.inr (.inr (.inr (va_up (fun j => (gR σ k j).map ρ) i.toNatClampNeg (some (ρ v))))))))) H1 → va_S (Ab base) s.heap H1 locs1 → W p l e (rmOf d cf sf) s m args below meth c H1 locs1 ce se (MQ below (Qf base ρ D aC n0 cf Rt) args s cf sf (Ab base)) (F0 m (pc + 1) lsJ (r.map (lf ρ))) := by
    intro t ht ht4 H1 locs1 hP1 hS1
    refine h base ρ D aC p l e s m args below meth c H1 locs1 lsJ hfl C (Wd_next (σ := σ) hρ (Nat.le_trans C.2.2.2.2.2.2.2.2.2.1 hS1.1) hW rfl ?_ hP1) hS1 hL hZ
    refine ws_set rfl (fun a ha => cell_ext rfl rfl (u2_row _ _ _ ha)) ?_
    rw [cell_arr (sh_eq ht)]
    refine congrArg (fun z => Sum.inl (aC (t + 1), (sh k).2, z)) ?_
    unfold arc
    rw [if_neg (by omega), if_pos (by omega)]
    congr 4
    funext b
    show (u2 σ.2.2.1 k i.toNatClampNeg (some v) k b).map ρ = _
    by_cases hb : b = i.toNatClampNeg
    · simp [u2, va_up, hb]
    · simp [u2, va_up, hb, gR]
  rcases hs with ⟨hs1, hs2⟩ | ⟨hs1, hs2⟩ | ⟨hs1, hs2⟩
  · rw [cell_arr (sh_eq hs1)] at hw9
    rw [cell_obj hs2] at hv9
    exact va_astq C.1 C.2.1 hK hW.1 (ws_D (aC := aC) hρ hW.2.1) hS k 4 v 5 hw9 rfl hv9 rfl hi hd (fun H1 locs1 hP1 _ hS1 => kk 4 hs1 (by omega) H1 locs1 hP1 hS1)
  · rw [cell_arr (sh_eq hs1)] at hw9
    rw [cell_obj hs2] at hv9
    exact va_astq C.1 C.2.1 hK hW.1 (ws_D (aC := aC) hρ hW.2.1) hS k 5 v 4 hw9 rfl hv9 rfl hi hd (fun H1 locs1 hP1 _ hS1 => kk 5 hs1 (by omega) H1 locs1 hP1 hS1)
  · rw [cell_arr (sh_eq hs1)] at hw9
    rw [cell_obj hs2] at hv9
    exact va_astq C.1 C.2.1 hK hW.1 (ws_D (aC := aC) hρ hW.2.1) hS k 6 v 3 hw9 rfl hv9 rfl hi hd (fun H1 locs1 hP1 _ hS1 => kk 6 hs1 (by omega) H1 locs1 hP1 hS1)
theorem x_objInit {n : Nat} (w1 : .methodLink q.1.cls n Lib.objectInit ∈ WT) (w2 : .instanceMethod Lib.objectInit ∈ WT) (w3 : .code Lib.objectInit ⟨#[0xb1]⟩ 1 none ∈ WT) (hd : decode q.2.1 pc = .ok (.invokespecial n, 3))
    (h : 0 < d ∧ pR st fun _ r => cats r ≤ 8 ∧ X d q n0 cf sf Rt (pc + 3) ce se ls r σ) : X d q n0 cf sf Rt pc ce se ls st σ := by
  obtain ⟨hd0, h⟩ := h
  obtain ⟨k, r, rfl, hct, h9⟩ := pR_sp h
  intro base ρ D aC p l e s m args below meth c H locs lsJ hfl C hW hS hL hZ
  have hts := C.2.2.2.2.2.2.2.1
  have h7 := lv_room (m := m) (pc := pc) (ls := lsJ) (rest := (Value.ref k :: r).map (lf ρ)) (st := r.map (lf ρ)) (by rw [cats_lf]; exact hct)
  exact W.objInit (R := rmOf d cf sf) C.1 C.2.1 C.2.2.2.2.1 (hts _ w1) (hts _ w2) (hts _ w3) rfl (hL.1.trans C.2.2.1.symm) rfl hd hd0 (by show _ ≤ 40 * d; omega) (h9 base ρ D aC p l e s m args below meth c H locs lsJ hfl C hW hS hL hZ)
theorem x_mmin {n : Nat} (w1 : .methodLink q.1.cls n Lib.Math.min.name ∈ WT) (w2 : .static Lib.Math.min.name ∈ WT) (w3 : .initialized "java/lang/Math" ∈ WT) (w4 : .code Lib.Math.min.name Lib.Math.min.code 2 (some .int) ∈ WT) (hd : decode q.2.1 pc = .ok (.invokestatic n, 3))
    (h : 0 < d ∧ pI st fun y r => pI r fun x r => (cats r ≤ 8 ∧ ce ≤ cf ∧ se ≤ sf) ∧ X d q n0 cf sf Rt (pc + 3) ce se ls (.int (if y < x then y else x) :: r) σ) : X d q n0 cf sf Rt pc ce se ls st σ := by
  obtain ⟨hd0, h⟩ := h
  obtain ⟨y, r, rfl, h1⟩ := pI_sp h
  obtain ⟨x, r, rfl, ⟨hct, hm1, hm2⟩, h9⟩ := pI_sp h1
  intro base ρ D aC p l e s m args below meth c H locs lsJ hfl C hW hS hL hZ
  have hts := C.2.2.2.2.2.2.2.1
  exact va_mmin (R := rmOf d cf sf) C.1 C.2.1 (C.2.2.1.trans hL.1.symm) C.2.2.2.2.1 (hts _ w1) (hts _ w2) (hts _ w3) (hts _ w4) hd0 (by rw [cats_lf]; show cats r + 13 ≤ 40 * d; omega) hm1 hm2 hd (h9 base ρ D aC p l e s m args below meth c H locs lsJ hfl C hW hS hL hZ)
theorem x_mmax {n : Nat} (w1 : .methodLink q.1.cls n Lib.Math.max.name ∈ WT) (w2 : .static Lib.Math.max.name ∈ WT) (w3 : .initialized "java/lang/Math" ∈ WT) (w4 : .code Lib.Math.max.name Lib.Math.max.code 2 (some .int) ∈ WT) (hd : decode q.2.1 pc = .ok (.invokestatic n, 3))
    (h : 0 < d ∧ pI st fun y r => pI r fun x r => (cats r ≤ 8 ∧ ce ≤ cf ∧ se ≤ sf) ∧ X d q n0 cf sf Rt (pc + 3) ce se ls (.int (if x < y then y else x) :: r) σ) : X d q n0 cf sf Rt pc ce se ls st σ := by
  obtain ⟨hd0, h⟩ := h
  obtain ⟨y, r, rfl, h1⟩ := pI_sp h
  obtain ⟨x, r, rfl, ⟨hct, hm1, hm2⟩, h9⟩ := pI_sp h1
  intro base ρ D aC p l e s m args below meth c H locs lsJ hfl C hW hS hL hZ
  have hts := C.2.2.2.2.2.2.2.1
  exact va_mmax (R := rmOf d cf sf) C.1 C.2.1 (C.2.2.1.trans hL.1.symm) C.2.2.2.2.1 (hts _ w1) (hts _ w2) (hts _ w3) (hts _ w4) hd0 (by rw [cats_lf]; show cats r + 13 ≤ 40 * d; omega) hm1 hm2 hd (h9 base ρ D aC p l e s m args below meth c H locs lsJ hfl C hW hS hL hZ)
end XNEW
