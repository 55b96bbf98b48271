/-! cells of the mini state in the heap -/
theorem ws_at {ρ : Nat → Nat} {aC : Nat → ClassId} {σ : St} {k : Nat} (h : k < gN σ) : (wsOf ρ aC σ)[k]? = some (ρ k, cellE ρ aC σ k) := by
  unfold wsOf
  rw [List.getElem?_map, List.getElem?_range h]
  rfl
theorem ws_inv {ρ : Nat → Nat} {aC : Nat → ClassId} {σ : St} {k : Nat} {x : Nat × va_E} (h : (wsOf ρ aC σ)[k]? = some x) : k < gN σ ∧ x = (ρ k, cellE ρ aC σ k) := by
  have hl : k < gN σ := by
    have := (List.getElem?_eq_some_iff.mp h).1
    unfold wsOf at this
    rwa [List.length_map, List.length_range] at this
  rw [ws_at hl] at h
  exact ⟨hl, (Option.some.inj h).symm⟩
theorem ws_D {base : Nat} {ρ : Nat → Nat} {aC : Nat → ClassId} {σ : St} (hρ : ∀ k, k < 1000 → ρ k = base + k) (hN : gN σ ≤ 107) : va_D (Ab base) (wsOf ρ aC σ) := by
  refine ⟨fun i j x y hi hj hxy => ?_, fun k x hk => ?_⟩
  · obtain ⟨h1, rfl⟩ := ws_inv hi
    obtain ⟨h2, rfl⟩ := ws_inv hj
    have h3 : ρ i = ρ j := hxy
    rw [hρ i (by omega), hρ j (by omega)] at h3
    omega
  · obtain ⟨h1, rfl⟩ := ws_inv hk
    show base ≤ ρ k
    rw [hρ k (by omega)]
    omega
theorem ws_set {ρ : Nat → Nat} {aC : Nat → ClassId} {σ σ' : St} {k : Nat} {e : va_E} (hn : gN σ' = gN σ) (ho : ∀ j, j ≠ k → cellE ρ aC σ' j = cellE ρ aC σ j) (he : cellE ρ aC σ' k = e) : (wsOf ρ aC σ).set k (ρ k, e) = wsOf ρ aC σ' := by
  apply List.ext_getElem?
  intro j
  by_cases hj : j < gN σ
  · rw [ws_at (σ := σ') (by omega)]
    by_cases e1 : j = k
    · subst e1
      rw [List.getElem?_set_self (by unfold wsOf; rw [List.length_map, List.length_range]; exact hj), he]
    · rw [List.getElem?_set_ne (Ne.symm e1), ws_at hj, ho j e1]
  · rw [List.getElem?_eq_none (by rw [List.length_set]; unfold wsOf; rw [List.length_map, List.length_range]; omega), List.getElem?_eq_none (by unfold wsOf; rw [List.length_map, List.length_range]; omega)]
theorem fv_ext {ρ : Nat → Nat} {σ σ' : St} {k j : Nat} (h1 : gI σ' k j = gI σ k j) (h2 : gL σ' k j = gL σ k j) (h3 : gR σ' k j = gR σ k j) (ty : FieldType) : fv ρ σ' k j ty = fv ρ σ k j ty := by
  cases ty <;> simp only [fv, h1, h2, h3]
theorem cell_ext {ρ : Nat → Nat} {aC : Nat → ClassId} {σ σ' : St} {k : Nat} (h1 : gI σ' k = gI σ k) (h2 : gL σ' k = gL σ k) (h3 : gR σ' k = gR σ k) : cellE ρ aC σ' k = cellE ρ aC σ k := by
  unfold cellE arc
  rw [h1, h2, h3]
  congr 3
  exact List.map_congr_left fun j _ => fv_ext (by rw [h1]) (by rw [h2]) (by rw [h3]) _
theorem cell_obj {ρ : Nat → Nat} {aC : Nat → ClassId} {σ : St} {k ci : Nat} (h : sh k = (0, ci)) : cellE ρ aC σ k = .inr (ci, (List.range (nOf ci)).map (fun j => fv ρ σ k j (tyOf ci j))) := by
  unfold cellE
  rw [h]
  rfl
theorem cell_arr {ρ : Nat → Nat} {aC : Nat → ClassId} {σ : St} {k t n : Nat} (h : sh k = (t + 1, n)) : cellE ρ aC σ k = .inl (aC (t + 1), n, arc ρ σ k (t + 1)) := by
  unfold cellE
  rw [h]
  rfl
theorem u2_same {α : Type} (f : Nat → Nat → α) (k j : Nat) (v : α) : u2 f k j v k j = v := by simp [u2]
theorem u2_row {α : Type} (f : Nat → Nat → α) {k a : Nat} (j : Nat) (v : α) (h : a ≠ k) : u2 f k j v a = f a := by
  funext b
  simp [u2, h]
theorem u2_slot {α : Type} (f : Nat → Nat → α) (k : Nat) {j b : Nat} (v : α) (h : b ≠ j) : u2 f k j v k b = f k b := by simp [u2, h]
theorem fs_at {ρ : Nat → Nat} {σ : St} {k ci j : Nat} (hj : j < nOf ci) : ((List.range (nOf ci)).map (fun j => fv ρ σ k j (tyOf ci j)))[j]? = some (fv ρ σ k j (tyOf ci j)) := by
  rw [List.getElem?_map, List.getElem?_range hj]
  rfl
theorem fs_set {ρ : Nat → Nat} {σ σ' : St} {k ci j : Nat} {v : Value} (hj : j < nOf ci) (hv : fv ρ σ' k j (tyOf ci j) = v) (ho : ∀ i, i ≠ j → fv ρ σ' k i (tyOf ci i) = fv ρ σ k i (tyOf ci i)) :
    (List.range (nOf ci)).map (fun j => fv ρ σ' k j (tyOf ci j)) = ((List.range (nOf ci)).map (fun j => fv ρ σ k j (tyOf ci j))).set j v := by
  apply List.ext_getElem?
  intro i
  by_cases hi : i < nOf ci
  · rw [fs_at hi]
    by_cases e : i = j
    · subst e
      rw [List.getElem?_set_self (by rw [List.length_map, List.length_range]; exact hi), hv]
    · rw [List.getElem?_set_ne (Ne.symm e), fs_at hi, ho i e]
  · rw [List.getElem?_eq_none (by rw [List.length_map, List.length_range]; omega), List.getElem?_eq_none (by rw [List.length_set, List.length_map, List.length_range]; omega)]
/-- the fields of all classes are among the words; their types -/
theorem cls_words : (vwCl.all fun r => (u_ws r.1 r.2.1 r.2.2).all fun w => decide (w ∈ WT)) = true := by decide +kernel
theorem cls_in {ci : Nat} {C : String} {T : u_T} {N : Nat} (h : vwCl[ci]? = some (C, T, N)) : ∀ w ∈ u_ws C T N, w ∈ WT := by
  intro w hw
  have h1 := List.all_eq_true.mp cls_words _ (List.mem_of_getElem? h)
  exact of_decide_eq_true (List.all_eq_true.mp h1 w hw)
theorem cls_types : ((List.range 11).all fun ci => match vwCl[ci]? with
  | some r => (List.range r.2.2).all fun k => decide (parseFieldDescriptor (r.2.1 k).2.2.1 = some (tyOf ci k))
  | none => false) = true := by decide +kernel
theorem cls_ty {ci : Nat} {C : String} {T : u_T} {N : Nat} (h : vwCl[ci]? = some (C, T, N)) : ∀ k, k < N → parseFieldDescriptor (T k).2.2.1 = some (tyOf ci k) := by
  intro k hk
  have hl : ci < 11 := (List.getElem?_eq_some_iff.mp h).1
  have h1 := List.all_eq_true.mp cls_types ci (List.mem_range.mpr hl)
  simp only [h] at h1
  exact of_decide_eq_true (List.all_eq_true.mp h1 k (List.mem_range.mpr hk))
theorem cls_names : (vwCl.all fun r => (List.range r.2.2).all fun a => (List.range r.2.2).all fun b => decide (a ≠ b → (r.2.1 a).2.1 ≠ (r.2.1 b).2.1)) = true := by decide +kernel
theorem cls_nm {ci : Nat} {C : String} {T : u_T} {N : Nat} (h : vwCl[ci]? = some (C, T, N)) : ∀ a, a < N → ∀ b, b < N → a ≠ b → (T a).2.1 ≠ (T b).2.1 := by
  intro a ha b hb
  have h1 := List.all_eq_true.mp cls_names _ (List.mem_of_getElem? h)
  exact of_decide_eq_true (List.all_eq_true.mp (List.all_eq_true.mp h1 a (List.mem_range.mpr ha)) b (List.mem_range.mpr hb))
theorem nOf_eq {ci : Nat} {C : String} {T : u_T} {N : Nat} (h : vwCl[ci]? = some (C, T, N)) : nOf ci = N := by unfold nOf; rw [h]
def fm (σ : St) (k j : Nat) : FieldType → Value
  | .long => .long (gL σ k j)
  | .object _ => rfV (gR σ k j)
  | .array _ => rfV (gR σ k j)
  | _ => .int (gI σ k j)
theorem lf_rfV (ρ : Nat → Nat) (o : Option Nat) : lf ρ (rfV o) = va_rf (o.map ρ) := by cases o <;> rfl
theorem lf_fm (ρ : Nat → Nat) (σ : St) (k j : Nat) (ty : FieldType) : lf ρ (fm σ k j ty) = fv ρ σ k j ty := by
  cases ty <;> first | rfl | exact lf_rfV _ _
section XHEAP
variable {d : Nat} {q : MI} {n0 cf sf : Nat} {Rt : Option Value → St → Prop} {pc ce se : Nat} {ls st : List Value} {σ : St}
theorem x_get {n ci j N : Nat} {C : String} {T : u_T} (hc : vwCl[ci]? = some (C, T, N)) (hj : j < N) (hw : .fieldLink q.1.cls n (T j).1 (T j).2.1 (T j).2.2.1 ∈ WT) (hd : decode q.2.1 pc = .ok (.getfield n, 3))
    (h : pR st fun k r => (sh k = (0, ci) ∧ k < gN σ) ∧ X d q n0 cf sf Rt (pc + 3) ce se ls (fm σ k j (tyOf ci j) :: r) σ) : X d q n0 cf sf Rt pc ce se ls st σ := by
  obtain ⟨k, r, rfl, ⟨hs, hk⟩, h⟩ := pR_sp h
  intro base ρ D aC p l e s m args below meth c H locs lsJ hfl C9 hW hS hL hZ
  have hw9 := ws_at (ρ := ρ) (aC := aC) hk
  rw [cell_obj hs] at hw9
  have hz := h base ρ D aC p l e s m args below meth c H locs lsJ hfl C9 hW hS hL hZ
  rw [List.map_cons, lf_fm] at hz
  exact va_get C9.1 C9.2.1 C9.2.2.2.2.2.2.2.1 (cls_in hc) C9.2.2.2.2.1 C9.2.2.2.2.2.2.2.2.1 hW.1 k hw9 hc j hj (C9.2.2.2.2.2.2.2.1 _ hw) (fun _ z => z) (fs_at (by rw [nOf_eq hc]; exact hj)) hd hz
theorem Wd_next {base : Nat} {ρ : Nat → Nat} {D : va_G} {aC : Nat → ClassId} {σ σ' : St} {H H1 : Heap} {ws : va_W} (hρ : ∀ k, k < 1000 → ρ k = base + k) (hb : base ≤ H1.size) (hW : Wd base ρ D aC σ H) (hn : gN σ' = gN σ) (he : ws = wsOf ρ aC σ') (hP : va_P D vwCl ws H1) : Wd base ρ D aC σ' H1 := by
  subst he
  refine ⟨hP, by rw [hn]; exact hW.2.1, ?_⟩
  rw [hn]
  rcases Nat.eq_zero_or_pos (gN σ) with h0 | h0
  · rw [h0]; exact hb
  · have h1 := ws_at (ρ := ρ) (aC := aC) (σ := σ') (k := gN σ - 1) (by omega)
    have h2 : ρ (gN σ - 1) < H1.size := (hP _ _ h1).lt
    have := hW.2.1
    rw [hρ _ (by omega)] at h2
    omega
/-- a put, whatever it puts: the state behind it, its cell -/
theorem x_put {n ci j N k : Nat} {C : String} {T : u_T} {v : Value} {r : List Value} {σ' : St} (hc : vwCl[ci]? = some (C, T, N)) (hj : j < N) (hw : .fieldLink q.1.cls n (T j).1 (T j).2.1 (T j).2.2.1 ∈ WT) (hd : decode q.2.1 pc = .ok (.putfield n, 3))
    (hfin : (T j).2.2.2 = false ∨ ((T j).2.2.2 = true ∧ q.1.name = "<init>" ∧ (T j).1 = q.1.cls)) (hs : sh k = (0, ci)) (hk : k < gN σ) (hn : gN σ' = gN σ) (hnr : ∀ ρ : Nat → Nat, narrow (tyOf ci j) (lf ρ v) = lf ρ v ∧ fits (tyOf ci j) (lf ρ v) = true)
    (ho : ∀ i, i ≠ k → gI σ' i = gI σ i ∧ gL σ' i = gL σ i ∧ gR σ' i = gR σ i) (hi : ∀ i, i ≠ j → gI σ' k i = gI σ k i ∧ gL σ' k i = gL σ k i ∧ gR σ' k i = gR σ k i) (hv : ∀ ρ, fv ρ σ' k j (tyOf ci j) = lf ρ v)
    (h : X d q n0 cf sf Rt (pc + 3) ce se ls r σ') : X d q n0 cf sf Rt pc ce se ls (v :: .ref k :: r) σ := by
  intro base ρ D aC p l e s m args below meth c H locs lsJ hfl C9 hW hS hL hZ
  have hw9 := ws_at (ρ := ρ) (aC := aC) hk
  rw [cell_obj hs] at hw9
  have hρ := C9.2.2.2.2.2.2.2.2.2.2.1
  have hD := ws_D (aC := aC) hρ hW.2.1
  have hset : (wsOf ρ aC σ).set k (ρ k, .inr (ci, ((List.range (nOf ci)).map (fun j => fv ρ σ k j (tyOf ci j))).set j (lf ρ v))) = wsOf ρ aC σ' := by
    refine ws_set hn (fun i h => cell_ext (ho i h).1 (ho i h).2.1 (ho i h).2.2) ?_
    rw [cell_obj hs, fs_set (by rw [nOf_eq hc]; exact hj) (hv ρ) (fun i h => fv_ext (hi i h).1 (hi i h).2.1 (hi i h).2.2 _)]
  have kk : ∀ (H1 : Heap) (locs1 : List Loc), va_P D vwCl ((wsOf ρ aC σ).set k (ρ k, .inr (ci, ((List.range (nOf ci)).map (fun j => fv ρ σ k j (tyOf ci j))).set j (lf ρ v)))) H1 → va_D (Ab base) ((wsOf ρ aC σ).set k (ρ k, .inr (ci, ((List.range (nOf ci)).map (fun j => fv ρ σ k j (tyOf ci j))).set j (lf ρ v)))) → va_S (Ab base) s.heap H1 locs1 →
      W p l e (rmOf d cf sf) s m args below meth c H1 locs1 ce se (MQ below (Qf base ρ D aC n0 cf Rt) args s cf sf (Ab base)) (F0 m (pc + 3) lsJ (r.map (lf ρ))) := by
    intro H1 locs1 hP1 _ hS1
    exact h base ρ D aC p l e s m args below meth c H1 locs1 lsJ hfl C9 (Wd_next hρ (Nat.le_trans C9.2.2.2.2.2.2.2.2.2.1 hS1.1) hW hn hset hP1) hS1 hL (by rw [hn]; exact hZ)
  have hlen : j < ((List.range (nOf ci)).map (fun j => fv ρ σ k j (tyOf ci j))).length := by rw [List.length_map, List.length_range, nOf_eq hc]; exact hj
  rcases hfin with hf | ⟨hf, hi2, hdl⟩
  · exact va_put C9.1 C9.2.1 C9.2.2.2.2.2.2.2.1 (cls_in hc) (tyOf ci) (cls_ty hc) (cls_nm hc) C9.2.2.2.2.1 C9.2.2.2.2.2.2.2.2.1 hW.1 hD hS k hw9 hc j hj (C9.2.2.2.2.2.2.2.1 _ hw) (fun _ z => z) hf (cls_ty hc j hj) (hnr ρ).1 (hnr ρ).2 hlen hd kk
  · exact va_putF C9.1 C9.2.1 C9.2.2.2.2.2.2.2.1 (cls_in hc) (tyOf ci) (cls_ty hc) (cls_nm hc) C9.2.2.2.2.1 C9.2.2.2.2.2.2.2.2.1 hW.1 hD hS k hw9 hc j hj (C9.2.2.2.2.2.2.2.1 _ hw) (fun _ z => z) hf (C9.2.2.2.2.2.2.1.trans hi2) hdl (cls_ty hc j hj) (hnr ρ).1 (hnr ρ).2 hlen hd kk
end XHEAP
