/-! returns, calls, entry -/
theorem over_arr {t : FieldType} {u U : State} (hvm : u.vm.Alike U.vm) (h : va_Nw (.arrayOver (.array t)) u) : va_Nw (.arrayOver (.array t)) U := by
  simp only [va_Nw, Cond.before, Cond.holds, Cond.value, beq_iff_eq] at h ⊢
  cases hc : u.vm.findClass (FieldType.array t).toString with
  | none => simp [hc] at h
  | some comp =>
    simp only [hc, Option.bind_some, Option.bind_eq_some_iff, Option.map_eq_some_iff] at h
    obtain ⟨c, h2, k, h3, h4⟩ := h
    obtain ⟨k', hk', he⟩ := hvm.2.2 _ _ h3
    have hi : (U.vm.classes.findIdx? fun (x : Class) => match x.kind with | .array component _ => component == comp | _ => false) = some c := by
      have e1 := va_idx_bare U.vm comp
      have e2 := va_idx_bare u.vm comp
      have e3 : U.vm.bare = u.vm.bare := by first | exact hvm.bare_eq | exact hvm.bare_eq.symm
      rw [e3] at e1
      exact (e1.symm.trans e2).trans h2
    have f1 : U.vm.findClass (FieldType.array t).toString = some comp := by rw [hvm.findClass]; exact hc
    have f2 : U.vm.findClass ("[" ++ (FieldType.array t).toString) = u.vm.findClass ("[" ++ (FieldType.array t).toString) := hvm.findClass _ _
    have hkk : k'.kind = k.kind := by rw [he]
    rw [f1, Option.bind_some]
    refine (congrArg (fun o : Option Nat => o.bind (fun c => (U.vm.classes[c]?).map fun (k : Class) => match k.kind with | .array _ ty => decide (ty = FieldType.array t) && decide (U.vm.findClass ("[" ++ (FieldType.array t).toString) = some c) | _ => false)) hi).trans ?_
    rw [Option.bind_some, hk', Option.map_some, hkk, f2]
    exact congrArg some h4
theorem NT_same {s U : State} (hv : s.vm = U.vm) {w : Cond} (hw : w ∈ NT) (h : va_Nw w s) : va_Nw w U := by
  have hf := (List.mem_filter.mp hw).2
  cases w with
  | methodLinkNest a i x hst => exact va_Nw.same rfl hv h
  | arrayOver ty =>
    have ha : s.vm.Alike U.vm := by rw [hv]; exact Vm.Alike.refl _
    cases ty with
    | object C => exact va_AO.moved ha h
    | array t => exact over_arr ha h
    | _ => simp [va_Nw, Cond.before, Cond.holds, Cond.value] at h
  | _ => cases hf
theorem NT_moved {s U : State} (hW : s.WarmedH U.vm) {w : Cond} (hw : w ∈ NT) (h : va_Nw w s) : va_Nw w U := by
  have hf := (List.mem_filter.mp hw).2
  cases w with
  | methodLinkNest a i x hst => exact va_Nw.warmM hW h
  | arrayOver ty =>
    cases ty with
    | object C => exact va_AO.moved hW.alike h
    | array t => exact over_arr hW.alike h
    | _ => simp [va_Nw, Cond.before, Cond.holds, Cond.value] at h
  | _ => cases hf
theorem Ex_moved {base : Nat} {ρ : Nat → Nat} {s U : State} {H : Heap} {locs : List Loc} (hE : Ex base ρ s) (hS : va_S (Ab base) s.heap H locs) (hU : U.heap = H) (hW : s.WarmedH U.vm) : Ex base ρ U := by
  obtain ⟨h1, h2, h3, h4, h5, h6, h7, h8, h9⟩ := hE
  refine ⟨by rw [hU]; exact Nat.le_trans h1 hS.1, h2, ?_, fun i x hx => (h4 i x hx).warm hW, fun x hx => ?_, ?_, ?_, ?_, fun w hw => NT_moved hW hw (h9 w hw)⟩
  · rw [hU]; exact vk_S.moved hW.alike (h3.kept hS.2.1)
  · rw [hU]; exact va_Z.moved hW.alike ((h5 x hx).kept hS.2.1)
  · rw [hU]; exact vx_Zq.moved hW.alike (h6.kept hS.2.1)
  · rw [hU]; exact vx_Zq.moved hW.alike (h7.kept hS.2.1)
  · rw [hU]; exact h8.imp (fun z => va_Z.moved hW.alike (z.kept hS.2.1)) (fun z => va_Z.moved hW.alike (z.kept hS.2.1))
theorem Pf_blind {base : Nat} {ρ : Nat → Nat} {D : va_G} {aC : Nat → ClassId} {mc : Nat} {as : List Value} {σ : St} : FrameBlind (Pf base ρ D aC mc as σ) := by
  intro a U g mk h
  obtain ⟨h1, h2, h3, h4, h5, h6, h7, h8, h9, h10, h11, h12, h13⟩ := h
  have hv : U.vm.Alike (U.calling g mk a).vm := Vm.Alike.refl U.vm
  refine ⟨h1, h2, h3, va_K.moved hv h4, h5, h6, vk_S.moved hv h7, fun i x hx => (h8 i x hx).same rfl, fun x hx => va_Z.moved hv (h9 x hx), vx_Zq.moved hv h10, vx_Zq.moved hv h11, h12.imp (fun z => va_Z.moved hv z) (fun z => va_Z.moved hv z), fun w hw => NT_same (s := U) (U := U.calling g mk a) rfl hw (h13 w hw)⟩
def enA (as : List Value) : List Value := as.flatMap fun v => if v.category = 2 then [v, .null] else [v]
def enL (n : Nat) (as : List Value) : List Value := enA as ++ List.replicate (n - (enA as).length) .null
theorem enA_len (ρ : Nat → Nat) : ∀ as : List Value, (lg_sl (as.map (lf ρ))).length = (enA as).length
  | [] => rfl
  | a :: as => by
    have ih := enA_len ρ as
    unfold lg_sl enA at ih ⊢
    rw [List.map_cons, List.flatMap_cons, List.flatMap_cons, List.length_append, List.length_append, ih, lf_cat]
    split <;> rfl
theorem enA_at (ρ : Nat → Nat) : ∀ (as : List Value) (i : Nat) (v : Value), (enA as)[i]? = some v → v ≠ .null → (lg_sl (as.map (lf ρ)))[i]? = some (.val (lf ρ v))
  | [], i, v, h, _ => by simp [enA] at h
  | a :: as, i, v, h, hn => by
    have ih := enA_at ρ as
    unfold lg_sl at ih ⊢
    unfold enA at ih h
    rw [List.flatMap_cons] at h
    rw [List.map_cons, List.flatMap_cons, lf_cat]
    by_cases hc : a.category = 2
    · rw [if_pos hc] at h ⊢
      match i, h with
      | 0, h => cases h; rfl
      | 1, h => cases h; exact absurd rfl hn
      | i + 2, h => exact ih i v h hn
    · rw [if_neg hc] at h ⊢
      match i, h with
      | 0, h => cases h; rfl
      | i + 1, h => exact ih i v h hn
theorem Con_of_X {d : Nat} {q : MI} {mc ms : Nat} {as : List Value} {σ : St} {Rt : Option Value → St → Prop} {ls : List Value} (hpl : plainName q.1.cls = true) (hen : (enA as).length ≤ q.2.2.1) (hls : enL q.2.2.1 as = ls) (h : X d q (gN σ) mc ms Rt 0 0 0 ls [] σ) : Con d q mc ms as σ Rt := by
  subst hls
  intro base ρ D aC l hfl
  refine Met.ofW (cc := q.2.1) (maxL := q.2.2.1) (ret := q.2.2.2) hpl rfl ?_
  intro p e s m args below meth c s₁ B hml hv
  obtain ⟨rfl, hWd, hz, hK, hE⟩ := hv
  have hts := atoms_spec (ws := .code q.1 q.2.1 q.2.2.1 q.2.2.2 :: WT) B.pre
  have hl := lv_entry (as.map (lf ρ)) (n := q.2.2.1) (by rw [enA_len]; exact hen)
  rw [lg_entry_eq]
  refine h base ρ D aC p l e s m _ below meth c s.heap [] _ hfl ⟨B.exec, B.bytes, hml, B.returns, findClass_of_methodNamed B.named, B.notSynchronized, (name_of_methodNamed B.named B.method).1, fun w hw => hts w (List.mem_cons_of_mem _ hw), hK, hE⟩ hWd va_S.rf ⟨hl.1, hl.2.1, ?_, ?_⟩ ⟨hz, Nat.le_refl _⟩
  · unfold enL
    rw [List.length_append, List.length_replicate]
    omega
  · intro i v hi hn
    unfold enL at hi
    by_cases hlt : i < (enA as).length
    · rw [List.getElem?_append_left hlt] at hi
      have h1 := enA_at ρ as i v hi hn
      rw [List.getElem?_toArray, List.getElem?_append_left (by rw [enA_len]; exact hlt)]
      exact h1
    · rw [List.getElem?_append_right (by omega)] at hi
      have := List.mem_of_getElem? hi
      exact absurd (List.eq_of_mem_replicate this) hn
section XCALL
variable {d : Nat} {q : MI} {n0 cf sf : Nat} {Rt : Option Value → St → Prop} {pc ce se : Nat} {ls st : List Value} {σ : St}
theorem x_ireturn (hr : q.2.2.2 = some .int) (hd : decode q.2.1 pc = .ok (.ireturn, 1)) (h : pI st fun x r => (r = [] ∧ ce = cf ∧ se = sf) ∧ Rt (some (.int x)) σ) : X d q n0 cf sf Rt pc ce se ls st σ := by
  obtain ⟨x, r, rfl, ⟨rfl, rfl, rfl⟩, h9⟩ := pI_sp h
  intro base ρ D aC p l e s m args below meth c H locs lsJ hfl C hW hS hL hZ
  exact W.iret C.1 C.2.1 (C.2.2.2.1.trans hr) (fun t ht _ => ⟨⟨some (.int x), σ, rfl, h9, by rw [ht]; exact hW, hZ.2⟩, hS.F ht⟩) hS.2.2 hd C.2.2.2.2.2.1
theorem x_zreturn (hr : q.2.2.2 = some .boolean) (hd : decode q.2.1 pc = .ok (.ireturn, 1)) (h : pI st fun x r => (r = [] ∧ ce = cf ∧ se = sf ∧ (x = 0 ∨ x = 1)) ∧ Rt (some (.int x)) σ) : X d q n0 cf sf Rt pc ce se ls st σ := by
  obtain ⟨x, r, rfl, ⟨rfl, rfl, rfl, hx⟩, h9⟩ := pI_sp h
  intro base ρ D aC p l e s m args below meth c H locs lsJ hfl C hW hS hL hZ
  exact W.zret C.1 C.2.1 (C.2.2.2.1.trans hr) (by rcases hx with rfl | rfl <;> rfl) (fun t ht _ => ⟨⟨some (.int x), σ, rfl, h9, by rw [ht]; exact hW, hZ.2⟩, hS.F ht⟩) hS.2.2 hd C.2.2.2.2.2.1
theorem x_return (hr : q.2.2.2 = none) (hd : decode q.2.1 pc = .ok (.return_, 1)) (h : (st = [] ∧ ce = cf ∧ se = sf) ∧ Rt none σ) : X d q n0 cf sf Rt pc ce se ls st σ := by
  obtain ⟨⟨rfl, rfl, rfl⟩, h9⟩ := h
  intro base ρ D aC p l e s m args below meth c H locs lsJ hfl C hW hS hL hZ
  exact W.vret C.1 C.2.1 (C.2.2.2.1.trans hr) (fun t ht _ => ⟨⟨none, σ, rfl, h9, by rw [ht]; exact hW, hZ.2⟩, hS.F ht⟩) hS.2.2 hd C.2.2.2.2.2.1
theorem x_areturn {ty : FieldType} (hr : q.2.2.2 = some (.array ty)) (hd : decode q.2.1 pc = .ok (.areturn, 1)) (h : pR st fun x r => (r = [] ∧ ce = cf ∧ se = sf) ∧ Rt (some (.ref x)) σ) : X d q n0 cf sf Rt pc ce se ls st σ := by
  obtain ⟨x, r, rfl, ⟨rfl, rfl, rfl⟩, h9⟩ := pR_sp h
  intro base ρ D aC p l e s m args below meth c H locs lsJ hfl C hW hS hL hZ
  exact W.aret C.1 C.2.1 (C.2.2.2.1.trans hr) (Or.inr ⟨_, rfl⟩) (Or.inr ⟨_, rfl⟩) (fun t ht _ => ⟨⟨some (.ref x), σ, rfl, h9, by rw [ht]; exact hW, hZ.2⟩, hS.F ht⟩) hS.2.2 hd C.2.2.2.2.2.1
theorem toL_map (ρ : Nat → Nat) (v : Option Value) (r : List Value) : (v.toList ++ r).map (lf ρ) = (v.map (lf ρ)).toList ++ r.map (lf ρ) := by cases v <;> rfl
/-- behind a call -/
theorem x_after {base : Nat} {ρ : Nat → Nat} {D : va_G} {aC : Nat → ClassId} {p : Program} {l : Launch} {e : Env} {s : State} {m : MethodId} {args : Array Value} {below : List Frame} {meth : Method} {c : Code} {H : Heap} {locs : List Loc} {lsJ : Array Slot} {mc ms : Nat} {st0 rest : List Value} {a : Array Value} {Rt' : Option Value → St → Prop} {Q : State → Prop} {R : Room}
    (hr : va_Run p l e R s m args below meth c H locs ce se mc ms (F0 m pc lsJ st0) rest (Qf base ρ D aC (gN σ) mc Rt' a) (Ab base)) (hS : va_S (Ab base) s.heap H locs)
    (kk : ∀ (v : Option Value) (σ' : St) (H1 : Heap) (locs1 : List Loc), Rt' v σ' → Wd base ρ D aC σ' H1 → gN σ + mc ≤ gN σ' → va_S (Ab base) s.heap H1 locs1 → W p l e R s m args below meth c H1 locs1 (ce + mc) (se + ms) Q (F0 m (pc + 3) lsJ ((v.map (lf ρ)).toList ++ rest))) :
    W p l e R s m args below meth c H locs ce se Q (F0 m pc lsJ st0) := by
  intro T hT X9
  obtain ⟨v, st₀, t, T', L, h0, X', hL, e1, e2, ⟨⟨r, σ', hv, hp, hb, hn⟩, hz, hk⟩, sp⟩ := hr T hT X9
  cases hv
  rw [h0] at hz hk
  obtain ⟨t2, a1, b1⟩ := kk r σ' T'.heap (locs ++ L) hp (by rw [e1]; exact hb) hn
    ⟨Nat.le_trans hS.1 (by rw [e1]; exact hz), fun x h1 h2 => by rw [e1, hk x (Nat.lt_of_lt_of_le h1 hS.1) h2]; exact hS.2.1 x h1 h2, fun x hx => by
      rcases List.mem_append.mp hx with z | z
      · exact hS.2.2 x z
      · exact hL x z⟩ T' rfl X'
  exact ⟨t2, sp t2 a1, b1⟩
def rcv (ci : Nat) (σ : St) (as : List Value) : Prop := match as with
  | .ref k :: _ => sh k = (0, ci) ∧ k < gN σ
  | _ => False
theorem rcv_sp {ci : Nat} {as : List Value} (h : rcv ci σ as) : ∃ (k : Nat) (as' : List Value), as = .ref k :: as' ∧ sh k = (0, ci) ∧ k < gN σ := by
  unfold rcv at h
  split at h
  · exact ⟨_, _, rfl, h.1, h.2⟩
  · exact h.elim
theorem cl_sp {n : Nat} {f : List Value → List Value → Prop} (h : cl st n f) : ∃ as r, st = as.reverse ++ r ∧ as.length = n ∧ f as r := by
  refine ⟨(st.take n).reverse, st.drop n, by rw [List.reverse_reverse, List.take_append_drop], ?_, h.2⟩
  rw [List.length_reverse, List.length_take]
  have := h.1
  omega
theorem x_sz {base : Nat} {p : Program} {l : Launch} {e : Env} {s : State} {m : MethodId} {args : Array Value} {below : List Frame} {meth : Method} {c : Code} {T : State} {locs : List Loc} {R : Room} {mc : Nat} (X9 : Stand p l e R s m args below meth c T locs ce se) (hZ : (0 < cf → s.heap.size ≤ base + n0) ∧ n0 + ce ≤ gN σ) (hm : ce + mc ≤ cf) : 0 < mc → T.heap.size ≤ base + gN σ := by
  intro h
  have h1 := X9.heapSize
  have h2 := hZ.1 (by omega)
  have h3 := hZ.2
  omega
theorem x_invV {n ci na mc ms N : Nat} {q' : MI} {C : String} {T : u_T} (hc : vwCl[ci]? = some (C, T, N)) (hcl : q'.1.cls = C) (w1 : .methodLink q.1.cls n q'.1 ∈ WT) (w2 : .instanceMethod q'.1 ∈ WT) (w3 : .selects C q'.1 q'.1 ∈ WT) (w4 : .initialized C ∈ WT) (w5 : .code q'.1 q'.2.1 q'.2.2.1 q'.2.2.2 ∈ WT)
    (hds : q'.1.cls ≠ "java/lang/invoke/MethodHandle" ∧ q'.1.cls ≠ "java/lang/invoke/VarHandle" ∧ (parseMethodDescriptor q'.1.desc).map (fun d => d.parameters.length) = some na) (hml : q'.2.2.1 ≤ 21) (hd : decode q.2.1 pc = .ok (.invokevirtual n, 3))
    (h : 0 < d ∧ cl st (na + 1) fun as r => (rcv ci σ as ∧ cats r ≤ 8 ∧ ce + mc ≤ cf ∧ se + ms ≤ sf) ∧ Con (d - 1) q' mc ms as σ (fun v σ' => X d q n0 cf sf Rt (pc + 3) (ce + mc) (se + ms) ls (v.toList ++ r) σ')) : X d q n0 cf sf Rt pc ce se ls st σ := by
  obtain ⟨hd0, h⟩ := h
  obtain ⟨as, r, rfl, hln, ⟨hrc, hct, hm1, hm2⟩, h9⟩ := cl_sp h
  obtain ⟨k, as', rfl, hrc⟩ := rcv_sp hrc
  intro base ρ D aC p l e s m args below meth c H locs lsJ hfl C9 hW hS hL hZ
  intro T hT X9
  have hsz := x_sz X9 hZ hm1
  rw [hT] at hsz
  have hw9 := ws_at (ρ := ρ) (aC := aC) hrc.2
  rw [cell_obj hrc.1] at hw9
  have hts := C9.2.2.2.2.2.2.2.1
  have hK := C9.2.2.2.2.2.2.2.2.1
  have hG : GoodIn WT (wsV q.1.cls n C q'.1 (.code q'.1 q'.2.1 q'.2.2.1 q'.2.2.2 :: WT)) := by
    intro w hw
    refine WT_good w ?_
    unfold wsV at hw
    simp only [List.cons_append, List.nil_append, List.mem_cons] at hw
    rcases hw with rfl | rfl | rfl | rfl | rfl | hw
    · exact w1
    · exact w2
    · exact w3
    · exact w4
    · exact w5
    · exact hw
  refine x_after (σ := σ) (va_runV (As := as'.map (lf ρ)) (rest := r.map (lf ρ)) (b := ρ k) ⟨C9.1, C9.2.1, C9.2.2.1, C9.2.2.2.2.1, hts⟩ (h9 base ρ D aC l hfl) (cwV na hts hG rfl rfl rfl ⟨hcl, hds⟩ ⟨by show d - 1 + 1 ≤ d; omega, by show 8 + (q'.2.2.1 + 11) + 40 * (d - 1) ≤ 40 * d; omega⟩) ⟨Pf_blind, va_recv hK hW.1 hc hw9, fun U hU hWm => ⟨rfl, by rw [hU]; exact hW, by rw [hU]; exact hsz, va_K.moved hWm.alike hK, Ex_moved C9.2.2.2.2.2.2.2.2.2 hS hU hWm⟩⟩ rfl (by rw [List.length_map]; simp at hln; exact hln) hL.1 (by simp [lf]) (lv_room (by rw [cats_lf]; exact hct)) hd ⟨hm1, hm2⟩) hS (fun v σ' H1 locs1 hv hW1 hn1 hS1 => ?_) T hT X9
  rw [← toL_map]
  exact hv base ρ D aC p l e s m args below meth c H1 locs1 lsJ hfl C9 hW1 hS1 hL ⟨hZ.1, by have := hZ.2; omega⟩
theorem x_invS {n na mc ms : Nat} {q' : MI} (w1 : .methodLink q.1.cls n q'.1 ∈ WT) (w2 : .static q'.1 ∈ WT) (w4 : .initialized q'.1.cls ∈ WT) (w5 : .code q'.1 q'.2.1 q'.2.2.1 q'.2.2.2 ∈ WT)
    (hds : q'.1.cls ≠ "java/lang/invoke/MethodHandle" ∧ q'.1.cls ≠ "java/lang/invoke/VarHandle" ∧ (parseMethodDescriptor q'.1.desc).map (fun d => d.parameters.length) = some na) (hml : q'.2.2.1 ≤ 21) (hd : decode q.2.1 pc = .ok (.invokestatic n, 3))
    (h : 0 < d ∧ cl st na fun as r => (cats r ≤ 8 ∧ ce + mc ≤ cf ∧ se + ms ≤ sf) ∧ Con (d - 1) q' mc ms as σ (fun v σ' => X d q n0 cf sf Rt (pc + 3) (ce + mc) (se + ms) ls (v.toList ++ r) σ')) : X d q n0 cf sf Rt pc ce se ls st σ := by
  obtain ⟨hd0, h⟩ := h
  obtain ⟨as, r, rfl, hln, ⟨hct, hm1, hm2⟩, h9⟩ := cl_sp h
  intro base ρ D aC p l e s m args below meth c H locs lsJ hfl C9 hW hS hL hZ
  intro T hT X9
  have hsz := x_sz X9 hZ hm1
  rw [hT] at hsz
  have hts := C9.2.2.2.2.2.2.2.1
  have hK := C9.2.2.2.2.2.2.2.2.1
  have hG : GoodIn WT (va_wsS q.1.cls n q'.1 (.code q'.1 q'.2.1 q'.2.2.1 q'.2.2.2 :: WT)) := by
    intro w hw
    refine WT_good w ?_
    unfold va_wsS at hw
    simp only [List.cons_append, List.nil_append, List.mem_cons] at hw
    rcases hw with rfl | rfl | rfl | rfl | hw
    · exact w1
    · exact w2
    · exact w4
    · exact w5
    · exact hw
  refine x_after (σ := σ) (va_runS (As := as.map (lf ρ)) (rest := r.map (lf ρ)) ⟨C9.1, C9.2.1, C9.2.2.1, C9.2.2.2.2.1, hts⟩ (h9 base ρ D aC l hfl) (va_cwS na hts hG rfl rfl rfl hds ⟨by show d - 1 + 1 ≤ d; omega, by show 8 + (q'.2.2.1 + 11) + 40 * (d - 1) ≤ 40 * d; omega⟩) ⟨Pf_blind, fun U hU hWm => ⟨rfl, by rw [hU]; exact hW, by rw [hU]; exact hsz, va_K.moved hWm.alike hK, Ex_moved C9.2.2.2.2.2.2.2.2.2 hS hU hWm⟩⟩ rfl (by rw [List.length_map]; exact hln) hL.1 (by simp) (lv_room (by rw [cats_lf]; exact hct)) hd ⟨hm1, hm2⟩) hS (fun v σ' H1 locs1 hv hW1 hn1 hS1 => ?_) T hT X9
  rw [← toL_map]
  exact hv base ρ D aC p l e s m args below meth c H1 locs1 lsJ hfl C9 hW1 hS1 hL ⟨hZ.1, by have := hZ.2; omega⟩
/-- a constructor, by its own link or as a nest mate -/
theorem x_invI {n na mc ms : Nat} {q' : MI} (hret : q'.2.2.2 = none) (hnm : q'.1.name = "<init>") (w1 : .methodLink q.1.cls n q'.1 ∈ WT ∨ .methodLinkNest q.1.cls n q'.1 "PayOrders" ∈ NT) (w2 : .instanceMethod q'.1 ∈ WT) (w4 : .initialized q'.1.cls ∈ WT) (w5 : .code q'.1 q'.2.1 q'.2.2.1 q'.2.2.2 ∈ WT)
    (hds : q'.1.cls ≠ "java/lang/invoke/MethodHandle" ∧ q'.1.cls ≠ "java/lang/invoke/VarHandle" ∧ (parseMethodDescriptor q'.1.desc).map (fun d => d.parameters.length) = some na) (hml : q'.2.2.1 ≤ 21) (hd : decode q.2.1 pc = .ok (.invokespecial n, 3))
    (h : 0 < d ∧ cl st (na + 1) fun as r => ((∃ k as', as = .ref k :: as') ∧ cats r ≤ 8 ∧ ce + mc ≤ cf ∧ se + ms ≤ sf) ∧ Con (d - 1) q' mc ms as σ (fun v σ' => X d q n0 cf sf Rt (pc + 3) (ce + mc) (se + ms) ls (v.toList ++ r) σ')) : X d q n0 cf sf Rt pc ce se ls st σ := by
  obtain ⟨hd0, h⟩ := h
  obtain ⟨as, r, rfl, hln, ⟨⟨k, as', rfl⟩, hct, hm1, hm2⟩, h9⟩ := cl_sp h
  intro base ρ D aC p l e s m args below meth c H locs lsJ hfl C9 hW hS hL hZ
  intro T hT X9
  have hsz := x_sz X9 hZ hm1
  rw [hT] at hsz
  have hts := C9.2.2.2.2.2.2.2.1
  have hK := C9.2.2.2.2.2.2.2.2.1
  have hG : GoodIn WT (.code q'.1 q'.2.1 q'.2.2.1 none :: WT) := by
    intro w hw
    refine WT_good w ?_
    rcases List.mem_cons.mp hw with rfl | hw
    · rw [← hret]; exact w5
    · exact hw
  have hM := h9 base ρ D aC l hfl
  rw [hret] at hM
  have kk : ∀ (v : Option Value) (σ' : St) (H1 : Heap) (locs1 : List Loc), X d q n0 cf sf Rt (pc + 3) (ce + mc) (se + ms) ls (v.toList ++ r) σ' → Wd base ρ D aC σ' H1 → gN σ + mc ≤ gN σ' → va_S (Ab base) s.heap H1 locs1 → W p l e (rmOf d cf sf) s m args below meth c H1 locs1 (ce + mc) (se + ms) (MQ below (Qf base ρ D aC n0 cf Rt) args s cf sf (Ab base)) (F0 m (pc + 3) lsJ ((v.map (lf ρ)).toList ++ r.map (lf ρ))) := by
    intro v σ' H1 locs1 hv hW1 hn1 hS1
    rw [← toL_map]
    exact hv base ρ D aC p l e s m args below meth c H1 locs1 lsJ hfl C9 hW1 hS1 hL ⟨hZ.1, by have := hZ.2; omega⟩
  have hR : (rmOf (d - 1) mc ms).frames + 1 ≤ (rmOf d cf sf).frames ∧ 8 + (q'.2.2.1 + 11) + (rmOf (d - 1) mc ms).locals ≤ (rmOf d cf sf).locals := ⟨by show d - 1 + 1 ≤ d; omega, by show 8 + (q'.2.2.1 + 11) + 40 * (d - 1) ≤ 40 * d; omega⟩
  have hPr : PreS s H (Pf base ρ D aC mc (.ref k :: as') σ) (.ref (ρ k) :: as'.map (lf ρ)) := ⟨Pf_blind, fun U hU hWm => ⟨rfl, by rw [hU]; exact hW, by rw [hU]; exact hsz, va_K.moved hWm.alike hK, Ex_moved C9.2.2.2.2.2.2.2.2.2 hS hU hWm⟩⟩
  rcases w1 with w1 | w1
  · exact x_after (σ := σ) (va_runI (As := as'.map (lf ρ)) (rest := r.map (lf ρ)) (b := ρ k) ⟨C9.1, C9.2.1, C9.2.2.1, C9.2.2.2.2.1, hts⟩ hM (cwI na hts hG rfl rfl rfl (hts _ w4) (hts _ w1) (hts _ w2) hnm hds hR) hPr rfl (by rw [List.length_map]; simp at hln; exact hln) hL.1 (by simp [lf]) (lv_room (by rw [cats_lf]; exact hct)) hd ⟨hm1, hm2⟩) hS kk T hT X9
  · exact x_after (σ := σ) (va_runIN (As := as'.map (lf ρ)) (rest := r.map (lf ρ)) (b := ρ k) ⟨C9.1, C9.2.1, C9.2.2.1, C9.2.2.2.2.1, hts⟩ hM ⟨va_cnB na hts hG rfl rfl rfl (C9.2.2.2.2.2.2.2.2.2.2.2.2.2.2.2.2.2 _ w1) (hts _ w4) hds hR, hnm, hts _ w2⟩ hPr rfl (by rw [List.length_map]; simp at hln; exact hln) hL.1 (by simp [lf]) (lv_room (by rw [cats_lf]; exact hct)) hd ⟨hm1, hm2⟩) hS kk T hT X9
end XCALL
