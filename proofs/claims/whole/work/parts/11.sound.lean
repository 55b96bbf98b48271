theorem mW_sp {hl : List Nat} {w : Cond} (h : mW hl w = true) : w ∈ WT := by
  unfold mW at h
  obtain ⟨h1, h2⟩ := Bool.and_eq_true_iff.mp h
  obtain ⟨i, -, hi⟩ := List.any_eq_true.mp h2
  exact List.mem_filter.mpr ⟨List.mem_of_getElem? (of_decide_eq_true hi), h1⟩
theorem mN_sp {hl : List Nat} {w : Cond} (h : mN hl w = true) : w ∈ NT := by
  unfold mN at h
  obtain ⟨h1, h2⟩ := Bool.and_eq_true_iff.mp h
  obtain ⟨i, -, hi⟩ := List.any_eq_true.mp h2
  exact List.mem_filter.mpr ⟨List.mem_of_getElem? (of_decide_eq_true hi), h1⟩
theorem sdLdc_sp {hl : List Nat} {q : MI} {n κ : Nat} {w : Cond} (h : sdLdc hl q n κ w = true) : (κ = 0 ∧ .constant q.1.cls n (kc w) ∈ WT) ∨ ∃ i tx, κ = i + 1 ∧ strT[i]? = some (q.1.cls, n, tx) := by
  unfold sdLdc at h
  split at h
  · exact Or.inl ⟨rfl, mW_sp (of_decide_eq_true h)⟩
  · split at h
    · rename_i i _ t ht
      obtain ⟨h1, h2⟩ := of_decide_eq_true h
      exact Or.inr ⟨i, t.2.2, rfl, by rw [ht, ← h1, ← h2]⟩
    · cases h
theorem sdGet_sp {hl : List Nat} {q : MI} {n κ : Nat} {a : List Nat} (h : sdGet hl q n κ a = true) : (∃ j tag C T N, a = [j, tag] ∧ vwCl[κ]? = some (C, T, N) ∧ j < N ∧ .fieldLink q.1.cls n (T j).1 (T j).2.1 (T j).2.2.1 ∈ WT ∧ tgG (tyOf κ j) = tag ∧ tag < 9) ∨ (a = [0] ∧ .fieldLink q.1.cls n "java/lang/String" "value" "[B" ∈ WT) ∨ (a = [1] ∧ .fieldLink q.1.cls n "java/lang/String" "coder" "B" ∈ WT) := by
  unfold sdGet at h
  split at h
  · rename_i j tag r hr
    obtain ⟨h1, h2, h3⟩ := of_decide_eq_true h
    exact Or.inl ⟨j, tag, r.1, r.2.1, r.2.2, rfl, hr, h1, mW_sp h2, h3⟩
  · exact Or.inr (Or.inl ⟨rfl, mW_sp (of_decide_eq_true h)⟩)
  · exact Or.inr (Or.inr ⟨rfl, mW_sp (of_decide_eq_true h)⟩)
  · cases h
theorem sdGs_sp {hl : List Nat} {q : MI} {n κ : Nat} (h : sdGs hl q n κ = true) : (κ = 0 ∧ .fieldLink q.1.cls n "jdk/internal/util/Preconditions" "SIOOBE_FORMATTER" "Ljava/util/function/BiFunction;" ∈ WT) ∨ ∃ i x, κ = i + 1 ∧ stT[i]? = some x ∧ .fieldLink q.1.cls n x.1 x.2.1 x.2.2.1 ∈ WT := by
  unfold sdGs at h
  split at h
  · exact Or.inl ⟨rfl, mW_sp (of_decide_eq_true h)⟩
  · split at h
    · rename_i i _ x hx
      exact Or.inr ⟨i, x, rfl, hx, mW_sp (of_decide_eq_true h)⟩
    · cases h
theorem sdPut_sp {hl : List Nat} {q : MI} {n κ : Nat} {a : List Nat} (h : sdPut hl q n κ a = true) : ∃ j tag C T N, a = [j, tag] ∧ vwCl[κ]? = some (C, T, N) ∧ j < N ∧ .fieldLink q.1.cls n (T j).1 (T j).2.1 (T j).2.2.1 ∈ WT ∧ tgP (tyOf κ j) = tag ∧ tag < 4 ∧ ((T j).2.2.2 = false ∨ ((T j).2.2.2 = true ∧ q.1.name = "<init>" ∧ (T j).1 = q.1.cls)) := by
  unfold sdPut at h
  split at h
  · rename_i j tag r hr
    obtain ⟨h1, h2, h3⟩ := of_decide_eq_true h
    exact ⟨j, tag, r.1, r.2.1, r.2.2, rfl, hr, h1, mW_sp h2, h3⟩
  · cases h
theorem sdIv_sp {hl : List Nat} {q : MI} {n : Nat} {a : List Nat} {w : Cond} (h : sdIv hl q n a w = true) : (∃ na ci mc ms y b ml rt C T N, a = [na, ci, mc, ms] ∧ w = .code y b ml rt ∧ vwCl[ci]? = some (C, T, N) ∧ y.cls = C ∧ .methodLink q.1.cls n y ∈ WT ∧ .instanceMethod y ∈ WT ∧ .selects C y y ∈ WT ∧ .initialized C ∈ WT ∧ .code y b ml rt ∈ WT ∧ (y.cls ≠ "java/lang/invoke/MethodHandle" ∧ y.cls ≠ "java/lang/invoke/VarHandle" ∧ (parseMethodDescriptor y.desc).map (fun d => d.parameters.length) = some na) ∧ ml ≤ 21) ∨
    ∃ na y b ml rt, a = [na] ∧ w = .code y b ml rt ∧ y.cls = "java/lang/String" ∧ .methodLink q.1.cls n y ∈ WT ∧ .instanceMethod y ∈ WT ∧ .selects "java/lang/String" y y ∈ WT ∧ .initialized "java/lang/String" ∈ WT ∧ .code y b ml rt ∈ WT ∧ (y.cls ≠ "java/lang/invoke/MethodHandle" ∧ y.cls ≠ "java/lang/invoke/VarHandle" ∧ (parseMethodDescriptor y.desc).map (fun d => d.parameters.length) = some na) ∧ ml ≤ 21 := by
  unfold sdIv at h
  split at h
  · rename_i na ci mc ms y b ml rt
    split at h
    · rename_i r hr
      obtain ⟨h1, w1, w2, w3, w4, w5, h2⟩ := of_decide_eq_true h
      exact Or.inl ⟨na, ci, mc, ms, y, b, ml, rt, r.1, r.2.1, r.2.2, rfl, rfl, hr, h1, mW_sp w1, mW_sp w2, mW_sp w3, mW_sp w4, mW_sp w5, h2⟩
    · cases h
  · obtain ⟨h1, w1, w2, w3, w4, w5, h2⟩ := of_decide_eq_true h
    exact Or.inr ⟨_, _, _, _, _, rfl, rfl, h1, mW_sp w1, mW_sp w2, mW_sp w3, mW_sp w4, mW_sp w5, h2⟩
  · cases h
theorem sdIs_sp {hl : List Nat} {q : MI} {n κ : Nat} {a : List Nat} {w : Cond} (h : sdIs hl q n κ a w = true) : (∃ na mc ms y b ml rt, κ = 0 ∧ a = [na, mc, ms] ∧ w = .code y b ml rt ∧ .methodLink q.1.cls n y ∈ WT ∧ .static y ∈ WT ∧ .initialized y.cls ∈ WT ∧ .code y b ml rt ∈ WT ∧ (y.cls ≠ "java/lang/invoke/MethodHandle" ∧ y.cls ≠ "java/lang/invoke/VarHandle" ∧ (parseMethodDescriptor y.desc).map (fun d => d.parameters.length) = some na) ∧ ml ≤ 21) ∨
    (κ = 1 ∧ .methodLink q.1.cls n Lib.Math.min.name ∈ WT ∧ .static Lib.Math.min.name ∈ WT ∧ .initialized "java/lang/Math" ∈ WT ∧ .code Lib.Math.min.name Lib.Math.min.code 2 (some .int) ∈ WT) ∨
    (κ = 2 ∧ .methodLink q.1.cls n Lib.Math.max.name ∈ WT ∧ .static Lib.Math.max.name ∈ WT ∧ .initialized "java/lang/Math" ∈ WT ∧ .code Lib.Math.max.name Lib.Math.max.code 2 (some .int) ∈ WT) := by
  unfold sdIs at h
  split at h
  · split at h
    · rename_i na mc ms y b ml rt
      obtain ⟨w1, w2, w3, w4, h2⟩ := of_decide_eq_true h
      exact Or.inl ⟨na, mc, ms, y, b, ml, rt, rfl, rfl, rfl, mW_sp w1, mW_sp w2, mW_sp w3, mW_sp w4, h2⟩
    · cases h
  · obtain ⟨w1, w2, w3, w4⟩ := of_decide_eq_true h
    exact Or.inr (Or.inl ⟨rfl, mW_sp w1, mW_sp w2, mW_sp w3, mW_sp w4⟩)
  · obtain ⟨w1, w2, w3, w4⟩ := of_decide_eq_true h
    exact Or.inr (Or.inr ⟨rfl, mW_sp w1, mW_sp w2, mW_sp w3, mW_sp w4⟩)
  · cases h
theorem sdIp_sp {hl : List Nat} {q : MI} {n κ : Nat} {a : List Nat} {w : Cond} (h : sdIp hl q n κ a w = true) : (∃ na mc ms y b ml rt, κ = 0 ∧ a = [na, mc, ms] ∧ w = .code y b ml rt ∧ rt = none ∧ y.name = "<init>" ∧ (.methodLink q.1.cls n y ∈ WT ∨ .methodLinkNest q.1.cls n y "PayOrders" ∈ NT) ∧ .instanceMethod y ∈ WT ∧ .initialized y.cls ∈ WT ∧ .code y b ml rt ∈ WT ∧ (y.cls ≠ "java/lang/invoke/MethodHandle" ∧ y.cls ≠ "java/lang/invoke/VarHandle" ∧ (parseMethodDescriptor y.desc).map (fun d => d.parameters.length) = some na) ∧ ml ≤ 21) ∨
    (κ = 1 ∧ .methodLink q.1.cls n Lib.objectInit ∈ WT ∧ .instanceMethod Lib.objectInit ∈ WT ∧ .code Lib.objectInit ⟨#[0xb1]⟩ 1 none ∈ WT) := by
  unfold sdIp at h
  split at h
  · split at h
    · rename_i na mc ms y b ml rt
      obtain ⟨h1, h2, w1, w2, w3, w4, h3⟩ := of_decide_eq_true h
      exact Or.inl ⟨na, mc, ms, y, b, ml, rt, rfl, rfl, rfl, h1, h2, w1.imp mW_sp mN_sp, mW_sp w2, mW_sp w3, mW_sp w4, h3⟩
    · cases h
  · obtain ⟨w1, w2, w3⟩ := of_decide_eq_true h
    exact Or.inr ⟨rfl, mW_sp w1, mW_sp w2, mW_sp w3⟩
  · cases h
theorem sdNew_sp {hl : List Nat} {q : MI} {n κ : Nat} (h : sdNew hl q n κ = true) : ∃ C T N, vwCl[κ]? = some (C, T, N) ∧ .classLink q.1.cls n C ∈ WT ∧ .instantiable C N ∈ WT ∧ .initialized C ∈ WT := by
  unfold sdNew at h
  split at h
  · rename_i r hr
    obtain ⟨w1, w2, w3⟩ := of_decide_eq_true h
    exact ⟨r.1, r.2.1, r.2.2, hr, mW_sp w1, mW_sp w2, mW_sp w3⟩
  · cases h
theorem sdAn_sp {hl : List Nat} {q : MI} {n κ : Nat} {w : Cond} (h : sdAn hl q n κ w = true) : ∃ C, ((κ = 4 ∧ C = "PayOrders$Table") ∨ (κ = 5 ∧ C = "PayOrders$Payer") ∨ (κ = 6 ∧ C = "PayOrders$Order")) ∧ .classLink q.1.cls n C ∈ WT ∧ .arrayOver (.object C) ∈ NT := by
  unfold sdAn at h
  split at h
  · obtain ⟨h1, w1, w2⟩ := of_decide_eq_true h
    exact ⟨_, h1, mW_sp w1, mN_sp w2⟩
  · cases h
theorem sdMn_sp {hl : List Nat} {q : MI} {n k κ : Nat} {a : List Nat} {w : Cond} (h : sdMn hl q n k κ a w = true) : ∃ ty, k = 2 ∧ ((κ = 7 ∧ a.headD 0 = 0 ∧ ty = .int) ∨ (κ = 8 ∧ a.headD 0 = 3 ∧ ty = .long)) ∧ .classLink q.1.cls n ("[" ++ (FieldType.array ty).toString) ∈ WT ∧ .arrayOver (.array ty) ∈ NT ∧ .arrayClass ty ∈ WT := by
  unfold sdMn at h
  split at h
  · obtain ⟨h1, h2, w1, w2, w3⟩ := of_decide_eq_true h
    exact ⟨_, h1, h2, mW_sp w1, mN_sp w2, mW_sp w3⟩
  · cases h

theorem isRefA_sp {as : List Value} (h : isRefA as) : ∃ k as', as = .ref k :: as' := by
  unfold isRefA at h
  split at h
  · exact ⟨_, _, rfl⟩
  · exact h.elim
theorem Con_mono {d : Nat} {q : MI} {mc ms : Nat} {as : List Value} {σ : St} {R1 R2 : Option Value → St → Prop} (h : Con d q mc ms as σ R1) (hm : ∀ v σ', R1 v σ' → R2 v σ') : Con d q mc ms as σ R2 := by
  intro base ρ D aC l hfl
  exact MetFree.mono (h base ρ D aC l hfl) (fun _ _ z => z) (fun _ _ _ _ _ z => z) (fun _ _ _ _ _ z => by
    obtain ⟨⟨⟨r, σ', h1, h2, h3⟩, h4⟩, h5⟩ := z
    exact ⟨⟨⟨r, σ', h1, hm r σ' h2, h3⟩, h4⟩, h5⟩)
theorem put_mono {tag j ci : Nat} {st : List Value} {σ : St} {f g : List Value → St → Prop} (h : put tag j ci st σ f) (hm : ∀ r σ', f r σ' → g r σ') : put tag j ci st σ g := by
  unfold put at h ⊢
  split at h
  · obtain ⟨v, r, rfl, h1⟩ := pI_sp h
    obtain ⟨k, r, rfl, h2, h3⟩ := pR_sp h1
    exact ⟨h2, hm _ _ h3⟩
  · obtain ⟨v, r, rfl, h1⟩ := pL_sp h
    obtain ⟨k, r, rfl, h2, h3⟩ := pR_sp h1
    exact ⟨h2, hm _ _ h3⟩
  · obtain ⟨v, r, rfl, h1⟩ := pR_sp h
    obtain ⟨k, r, rfl, h2, h3⟩ := pR_sp h1
    exact ⟨h2, hm _ _ h3⟩
  · obtain ⟨v, r, rfl, h1⟩ := pI_sp h
    obtain ⟨k, r, rfl, h2, h3⟩ := pR_sp h1
    exact ⟨h2, hm _ _ h3⟩
section XSTEP
variable {d : Nat} {q : MI} {n0 cf sf : Nat} {Rt : Option Value → St → Prop} {pc ce se : Nat} {ls st : List Value} {σ : St}
theorem x_puts {n ci j N tag : Nat} {C : String} {T : u_T} (hc : vwCl[ci]? = some (C, T, N)) (hj : j < N) (hw : .fieldLink q.1.cls n (T j).1 (T j).2.1 (T j).2.2.1 ∈ WT) (hd : decode q.2.1 pc = .ok (.putfield n, 3))
    (hfin : (T j).2.2.2 = false ∨ ((T j).2.2.2 = true ∧ q.1.name = "<init>" ∧ (T j).1 = q.1.cls)) (htg : tgP (tyOf ci j) = tag) (h4 : tag < 4) (h : put tag j ci st σ fun r σ' => X d q n0 cf sf Rt (pc + 3) ce se ls r σ') : X d q n0 cf sf Rt pc ce se ls st σ := by
  unfold put at h
  split at h
  · obtain ⟨v, r, rfl, h1⟩ := pI_sp h
    obtain ⟨k, r, rfl, ⟨hs, hk⟩, h3⟩ := pR_sp h1
    have ht : tyOf ci j = .int := by cases hty : tyOf ci j <;> rw [hty] at htg <;> first | rfl | (exfalso; simp [tgP] at htg)
    exact x_put (σ' := sI σ k j v) hc hj hw hd hfin hs hk rfl (fun ρ => by rw [ht]; exact ⟨rfl, rfl⟩) (fun i hi => ⟨u2_row _ _ _ hi, rfl, rfl⟩) (fun i hi => ⟨u2_slot _ _ _ hi, rfl, rfl⟩) (fun ρ => by rw [ht]; show Value.int (u2 σ.1 k j v k j) = _; rw [u2_same]; rfl) h3
  · obtain ⟨v, r, rfl, h1⟩ := pL_sp h
    obtain ⟨k, r, rfl, ⟨hs, hk⟩, h3⟩ := pR_sp h1
    have ht : tyOf ci j = .long := by cases hty : tyOf ci j <;> rw [hty] at htg <;> first | rfl | (exfalso; simp [tgP] at htg)
    exact x_put (σ' := sL σ k j v) hc hj hw hd hfin hs hk rfl (fun ρ => by rw [ht]; exact ⟨rfl, rfl⟩) (fun i hi => ⟨rfl, u2_row _ _ _ hi, rfl⟩) (fun i hi => ⟨rfl, u2_slot _ _ _ hi, rfl⟩) (fun ρ => by rw [ht]; show Value.long (u2 σ.2.1 k j v k j) = _; rw [u2_same]; rfl) h3
  · obtain ⟨v, r, rfl, h1⟩ := pR_sp h
    obtain ⟨k, r, rfl, ⟨hs, hk⟩, h3⟩ := pR_sp h1
    have ht : (∃ z, tyOf ci j = .object z) ∨ ∃ z, tyOf ci j = .array z := by cases hty : tyOf ci j <;> rw [hty] at htg <;> first | exact Or.inl ⟨_, rfl⟩ | exact Or.inr ⟨_, rfl⟩ | (exfalso; simp [tgP] at htg)
    refine x_put (σ' := sR σ k j (some v)) hc hj hw hd hfin hs hk rfl (fun ρ => ?_) (fun i hi => ⟨rfl, rfl, u2_row _ _ _ hi⟩) (fun i hi => ⟨rfl, rfl, u2_slot _ _ _ hi⟩) (fun ρ => ?_) h3
    · rcases ht with ⟨z, hz⟩ | ⟨z, hz⟩ <;> rw [hz] <;> exact ⟨rfl, rfl⟩
    · rcases ht with ⟨z, hz⟩ | ⟨z, hz⟩ <;> rw [hz] <;> show va_rf ((u2 σ.2.2.1 k j (some v) k j).map ρ) = _ <;> rw [u2_same] <;> rfl
  · obtain ⟨v, r, rfl, h1⟩ := pI_sp h
    obtain ⟨k, r, rfl, ⟨hs, hk, hv⟩, h3⟩ := pR_sp h1
    have ht : tyOf ci j = .boolean := by
      cases hty : tyOf ci j <;> rw [hty] at htg <;> first | rfl | (exfalso; subst htg; simp_all [tgP])
    exact x_put (σ' := sI σ k j v) hc hj hw hd hfin hs hk rfl (fun ρ => by rw [ht]; rcases hv with rfl | rfl <;> exact ⟨rfl, rfl⟩) (fun i hi => ⟨u2_row _ _ _ hi, rfl, rfl⟩) (fun i hi => ⟨u2_slot _ _ _ hi, rfl, rfl⟩) (fun ρ => by rw [ht]; show Value.int (u2 σ.1 k j v k j) = _; rw [u2_same]; rfl) h3
theorem sw_sp {x : Int} {f g : Nat → Prop} (hm : ∀ t, f t → g t) : ∀ (ts : List Nat) (lo : Int) (i : Nat) (t : Nat), sw x f lo ts → ts[i]? = some t → x = lo + i → g t
  | [], lo, i, t, _, h, _ => by simp at h
  | t0 :: ts, lo, 0, t, h, ht, hx => by
    cases ht
    exact hm _ (h.1 (by omega))
  | t0 :: ts, lo, i + 1, t, h, ht, hx => sw_sp hm ts (lo + 1) i t h.2 ht (by omega)
theorem swp_sp {x : Int} {f : Nat → Prop} {D : Nat} {pc : Nat} {dflt : Int} (hD : (pc : Int) + dflt = (D : Int)) : ∀ (ps : List (Int × Int)) (a : List Nat), swp x f D ps a → ps.map (fun o => (pc : Int) + o.2) = a.map (fun t : Nat => (t : Int)) → ∃ t : Nat, (pc : Int) + Op.lookupswitch.offset ps dflt x = (t : Int) ∧ f t
  | [], a, h, he => by
    cases a with
    | nil => exact ⟨D, by simp [Op.lookupswitch.offset]; exact hD, h⟩
    | cons t ts => simp at he
  | p :: ps, a, h, he => by
    cases a with
    | nil => simp at he
    | cons t ts =>
      simp only [List.map_cons, List.cons.injEq] at he
      obtain ⟨z1, z2⟩ := h
      by_cases hx : x = p.1
      · refine ⟨t, ?_, z1 hx⟩
        obtain ⟨p1, p2⟩ := p
        rw [Op.lookupswitch.offset_cons, if_pos hx.symm]
        exact he.1
      · obtain ⟨t2, h1, h2⟩ := swp_sp hD ps ts (z2 hx) he.2
        refine ⟨t2, ?_, h2⟩
        obtain ⟨p1, p2⟩ := p
        rw [Op.lookupswitch.offset_cons, if_neg (Ne.symm hx)]
        exact h1
set_option maxHeartbeats 4000000 in
theorem X_step {hl : List Nat} {K : Nat → Nat → Nat → List Value → List Value → St → Prop} {e : Ent} (hck : chk hl q pc e = true) (hK : ∀ pc' ce' se' ls' st' σ', K pc' ce' se' ls' st' σ' → X d q n0 cf sf Rt pc' ce' se' ls' st' σ') (h : stp d cf sf q.2.2.1 Rt K e ce se ls st σ) : X d q n0 cf sf Rt pc ce se ls st σ := by
  obtain ⟨ins, nx, κ, a, w⟩ := e
  unfold chk at hck
  obtain ⟨hdn, hs⟩ := Bool.and_eq_true_iff.mp hck
  cases ins
  case iadd => 
    obtain ⟨hd, hn⟩ := of_decide_eq_true (show decide (decode q.2.1 pc = .ok (.iadd, ln (.iadd)) ∧ nx = pc + ln (.iadd)) = true from hdn)
    subst hn
    obtain ⟨y, r, rfl, h1⟩ := pI_sp h
    obtain ⟨x, r, rfl, h2⟩ := pI_sp h1
    exact x_iadd hd (hK _ _ _ _ _ _ h2)
  case isub => 
    obtain ⟨hd, hn⟩ := of_decide_eq_true (show decide (decode q.2.1 pc = .ok (.isub, ln (.isub)) ∧ nx = pc + ln (.isub)) = true from hdn)
    subst hn
    obtain ⟨y, r, rfl, h1⟩ := pI_sp h
    obtain ⟨x, r, rfl, h2⟩ := pI_sp h1
    exact x_isub hd (hK _ _ _ _ _ _ h2)
  case imul => 
    obtain ⟨hd, hn⟩ := of_decide_eq_true (show decide (decode q.2.1 pc = .ok (.imul, ln (.imul)) ∧ nx = pc + ln (.imul)) = true from hdn)
    subst hn
    obtain ⟨y, r, rfl, h1⟩ := pI_sp h
    obtain ⟨x, r, rfl, h2⟩ := pI_sp h1
    exact x_imul hd (hK _ _ _ _ _ _ h2)
  case iand => 
    obtain ⟨hd, hn⟩ := of_decide_eq_true (show decide (decode q.2.1 pc = .ok (.iand, ln (.iand)) ∧ nx = pc + ln (.iand)) = true from hdn)
    subst hn
    obtain ⟨y, r, rfl, h1⟩ := pI_sp h
    obtain ⟨x, r, rfl, h2⟩ := pI_sp h1
    exact x_iand hd (hK _ _ _ _ _ _ h2)
  case ior => 
    obtain ⟨hd, hn⟩ := of_decide_eq_true (show decide (decode q.2.1 pc = .ok (.ior, ln (.ior)) ∧ nx = pc + ln (.ior)) = true from hdn)
    subst hn
    obtain ⟨y, r, rfl, h1⟩ := pI_sp h
    obtain ⟨x, r, rfl, h2⟩ := pI_sp h1
    exact x_ior hd (hK _ _ _ _ _ _ h2)
  case ishl => 
    obtain ⟨hd, hn⟩ := of_decide_eq_true (show decide (decode q.2.1 pc = .ok (.ishl, ln (.ishl)) ∧ nx = pc + ln (.ishl)) = true from hdn)
    subst hn
    obtain ⟨y, r, rfl, h1⟩ := pI_sp h
    obtain ⟨x, r, rfl, h2⟩ := pI_sp h1
    exact x_ishl hd (hK _ _ _ _ _ _ h2)
  case ishr => 
    obtain ⟨hd, hn⟩ := of_decide_eq_true (show decide (decode q.2.1 pc = .ok (.ishr, ln (.ishr)) ∧ nx = pc + ln (.ishr)) = true from hdn)
    subst hn
    obtain ⟨y, r, rfl, h1⟩ := pI_sp h
    obtain ⟨x, r, rfl, h2⟩ := pI_sp h1
    exact x_ishr hd (hK _ _ _ _ _ _ h2)
  case idiv => 
    obtain ⟨hd, hn⟩ := of_decide_eq_true (show decide (decode q.2.1 pc = .ok (.idiv, ln (.idiv)) ∧ nx = pc + ln (.idiv)) = true from hdn)
    subst hn
    obtain ⟨y, r, rfl, h1⟩ := pI_sp h
    obtain ⟨x, r, rfl, hn, h2⟩ := pI_sp h1
    exact x_idiv hd ⟨hn, hK _ _ _ _ _ _ h2⟩
  case irem => 
    obtain ⟨hd, hn⟩ := of_decide_eq_true (show decide (decode q.2.1 pc = .ok (.irem, ln (.irem)) ∧ nx = pc + ln (.irem)) = true from hdn)
    subst hn
    obtain ⟨y, r, rfl, h1⟩ := pI_sp h
    obtain ⟨x, r, rfl, hn, h2⟩ := pI_sp h1
    exact x_irem hd ⟨hn, hK _ _ _ _ _ _ h2⟩
  case ladd => 
    obtain ⟨hd, hn⟩ := of_decide_eq_true (show decide (decode q.2.1 pc = .ok (.ladd, ln (.ladd)) ∧ nx = pc + ln (.ladd)) = true from hdn)
    subst hn
    obtain ⟨y, r, rfl, h1⟩ := pL_sp h
    obtain ⟨x, r, rfl, h2⟩ := pL_sp h1
    exact x_ladd hd (hK _ _ _ _ _ _ h2)
  case lsub => 
    obtain ⟨hd, hn⟩ := of_decide_eq_true (show decide (decode q.2.1 pc = .ok (.lsub, ln (.lsub)) ∧ nx = pc + ln (.lsub)) = true from hdn)
    subst hn
    obtain ⟨y, r, rfl, h1⟩ := pL_sp h
    obtain ⟨x, r, rfl, h2⟩ := pL_sp h1
    exact x_lsub hd (hK _ _ _ _ _ _ h2)
  case lmul => 
    obtain ⟨hd, hn⟩ := of_decide_eq_true (show decide (decode q.2.1 pc = .ok (.lmul, ln (.lmul)) ∧ nx = pc + ln (.lmul)) = true from hdn)
    subst hn
    obtain ⟨y, r, rfl, h1⟩ := pL_sp h
    obtain ⟨x, r, rfl, h2⟩ := pL_sp h1
    exact x_lmul hd (hK _ _ _ _ _ _ h2)
  case lor => 
    obtain ⟨hd, hn⟩ := of_decide_eq_true (show decide (decode q.2.1 pc = .ok (.lor, ln (.lor)) ∧ nx = pc + ln (.lor)) = true from hdn)
    subst hn
    obtain ⟨y, r, rfl, h1⟩ := pL_sp h
    obtain ⟨x, r, rfl, h2⟩ := pL_sp h1
    exact x_lor hd (hK _ _ _ _ _ _ h2)
  case land => 
    obtain ⟨hd, hn⟩ := of_decide_eq_true (show decide (decode q.2.1 pc = .ok (.land, ln (.land)) ∧ nx = pc + ln (.land)) = true from hdn)
    subst hn
    obtain ⟨y, r, rfl, h1⟩ := pL_sp h
    obtain ⟨x, r, rfl, h2⟩ := pL_sp h1
    exact x_land hd (hK _ _ _ _ _ _ h2)
  case ldiv => 
    obtain ⟨hd, hn⟩ := of_decide_eq_true (show decide (decode q.2.1 pc = .ok (.ldiv, ln (.ldiv)) ∧ nx = pc + ln (.ldiv)) = true from hdn)
    subst hn
    obtain ⟨y, r, rfl, h1⟩ := pL_sp h
    obtain ⟨x, r, rfl, hn, h2⟩ := pL_sp h1
    exact x_ldiv hd ⟨hn, hK _ _ _ _ _ _ h2⟩
  case lshl => 
    obtain ⟨hd, hn⟩ := of_decide_eq_true (show decide (decode q.2.1 pc = .ok (.lshl, ln (.lshl)) ∧ nx = pc + ln (.lshl)) = true from hdn)
    subst hn
    obtain ⟨y, r, rfl, h1⟩ := pI_sp h
    obtain ⟨x, r, rfl, h2⟩ := pL_sp h1
    exact x_lshl hd (hK _ _ _ _ _ _ h2)
  case lcmp => 
    obtain ⟨hd, hn⟩ := of_decide_eq_true (show decide (decode q.2.1 pc = .ok (.lcmp, ln (.lcmp)) ∧ nx = pc + ln (.lcmp)) = true from hdn)
    subst hn
    obtain ⟨y, r, rfl, h1⟩ := pL_sp h
    obtain ⟨x, r, rfl, h2⟩ := pL_sp h1
    exact x_lcmp hd (hK _ _ _ _ _ _ h2)
  case i2l => 
    obtain ⟨hd, hn⟩ := of_decide_eq_true (show decide (decode q.2.1 pc = .ok (.i2l, ln (.i2l)) ∧ nx = pc + ln (.i2l)) = true from hdn)
    subst hn
    obtain ⟨x, r, rfl, h2⟩ := pI_sp h
    exact x_i2l hd (hK _ _ _ _ _ _ h2)
  case i2b => 
    obtain ⟨hd, hn⟩ := of_decide_eq_true (show decide (decode q.2.1 pc = .ok (.i2b, ln (.i2b)) ∧ nx = pc + ln (.i2b)) = true from hdn)
    subst hn
    obtain ⟨x, r, rfl, h2⟩ := pI_sp h
    exact x_i2b hd (hK _ _ _ _ _ _ h2)
  case l2i => 
    obtain ⟨hd, hn⟩ := of_decide_eq_true (show decide (decode q.2.1 pc = .ok (.l2i, ln (.l2i)) ∧ nx = pc + ln (.l2i)) = true from hdn)
    subst hn
    obtain ⟨x, r, rfl, h2⟩ := pL_sp h
    exact x_l2i hd (hK _ _ _ _ _ _ h2)
  case iconst n => 
    obtain ⟨hd, hn⟩ := of_decide_eq_true (show decide (decode q.2.1 pc = .ok (.iconst n, ln (.iconst n)) ∧ nx = pc + ln (.iconst n)) = true from hdn)
    subst hn
    replace hs : (decide (Int32.ofInt n = kc w)) = true := hs
    have h3 := of_decide_eq_true hs
    refine x_iconst hd (hK _ _ _ _ _ _ ?_)
    rw [h3]
    exact h
  case bipush n => 
    obtain ⟨hd, hn⟩ := of_decide_eq_true (show decide (decode q.2.1 pc = .ok (.bipush n, ln (.bipush n)) ∧ nx = pc + ln (.bipush n)) = true from hdn)
    subst hn
    replace hs : (decide ((Int8.ofInt n).toInt32 = kc w)) = true := hs
    have h3 := of_decide_eq_true hs
    refine x_bipush hd (hK _ _ _ _ _ _ ?_)
    rw [h3]
    exact h
  case sipush n => 
    obtain ⟨hd, hn⟩ := of_decide_eq_true (show decide (decode q.2.1 pc = .ok (.sipush n, ln (.sipush n)) ∧ nx = pc + ln (.sipush n)) = true from hdn)
    subst hn
    replace hs : (decide ((Int16.ofInt n).toInt32 = kc w)) = true := hs
    have h3 := of_decide_eq_true hs
    refine x_sipush hd (hK _ _ _ _ _ _ ?_)
    rw [h3]
    exact h
  case lconst n => 
    obtain ⟨hd, hn⟩ := of_decide_eq_true (show decide (decode q.2.1 pc = .ok (.lconst n, ln (.lconst n)) ∧ nx = pc + ln (.lconst n)) = true from hdn)
    subst hn
    replace hs : (decide (Int64.ofNat (n : Nat) = kl w)) = true := hs
    have h3 := of_decide_eq_true hs
    refine x_lconst hd (hK _ _ _ _ _ _ ?_)
    rw [h3]
    exact h
  case ldc2_w n => 
    obtain ⟨hd, hn⟩ := of_decide_eq_true (show decide (decode q.2.1 pc = .ok (.ldc2_w n, ln (.ldc2_w n)) ∧ nx = pc + ln (.ldc2_w n)) = true from hdn)
    subst hn
    replace hs : (mW hl (.constantLong q.1.cls n (kl w))) = true := hs
    exact x_ldc2 (mW_sp hs) hd (hK _ _ _ _ _ _ h)
  case ldc_w n => 
    obtain ⟨hd, hn⟩ := of_decide_eq_true (show decide (decode q.2.1 pc = .ok (.ldc_w n, ln (.ldc_w n)) ∧ nx = pc + ln (.ldc_w n)) = true from hdn)
    subst hn
    replace hs : (mW hl (.constant q.1.cls n (kc w))) = true := hs
    exact x_ldcw (mW_sp hs) hd (hK _ _ _ _ _ _ h)
  case ldc n => 
    obtain ⟨hd, hn⟩ := of_decide_eq_true (show decide (decode q.2.1 pc = .ok (.ldc n, ln (.ldc n)) ∧ nx = pc + ln (.ldc n)) = true from hdn)
    subst hn
    replace hs : (sdLdc hl q n κ w) = true := hs
    rcases sdLdc_sp hs with ⟨rfl, hw⟩ | ⟨i, tx, rfl, hi⟩
    · exact x_ldc hw hd (hK _ _ _ _ _ _ h)
    · exact x_ldcS hi hd (hK _ _ _ _ _ _ h)
  case iload i => 
    obtain ⟨hd, hn⟩ := of_decide_eq_true (show decide (decode q.2.1 pc = .ok (.iload i, ln (.iload i)) ∧ nx = pc + ln (.iload i)) = true from hdn)
    subst hn
    replace hs : (decide (i = κ)) = true := hs
    have h3 := of_decide_eq_true hs
    subst h3
    obtain ⟨x, hx, h2⟩ := iI_sp h
    refine x_iload hd ?_
    unfold iI
    rw [hx]
    exact hK _ _ _ _ _ _ h2
  case iload_n i => 
    obtain ⟨hd, hn⟩ := of_decide_eq_true (show decide (decode q.2.1 pc = .ok (.iload_n i, ln (.iload_n i)) ∧ nx = pc + ln (.iload_n i)) = true from hdn)
    subst hn
    replace hs : (decide ((i : Nat) = κ)) = true := hs
    have h3 := of_decide_eq_true hs
    subst h3
    obtain ⟨x, hx, h2⟩ := iI_sp h
    refine x_iload_n hd ?_
    unfold iI
    rw [hx]
    exact hK _ _ _ _ _ _ h2
  case lload i => 
    obtain ⟨hd, hn⟩ := of_decide_eq_true (show decide (decode q.2.1 pc = .ok (.lload i, ln (.lload i)) ∧ nx = pc + ln (.lload i)) = true from hdn)
    subst hn
    replace hs : (decide (i = κ)) = true := hs
    have h3 := of_decide_eq_true hs
    subst h3
    obtain ⟨x, hx, h2⟩ := iL_sp h
    refine x_lload hd ?_
    unfold iL
    rw [hx]
    exact hK _ _ _ _ _ _ h2
  case lload_n i => 
    obtain ⟨hd, hn⟩ := of_decide_eq_true (show decide (decode q.2.1 pc = .ok (.lload_n i, ln (.lload_n i)) ∧ nx = pc + ln (.lload_n i)) = true from hdn)
    subst hn
    replace hs : (decide ((i : Nat) = κ)) = true := hs
    have h3 := of_decide_eq_true hs
    subst h3
    obtain ⟨x, hx, h2⟩ := iL_sp h
    refine x_lload_n hd ?_
    unfold iL
    rw [hx]
    exact hK _ _ _ _ _ _ h2
  case aload i => 
    obtain ⟨hd, hn⟩ := of_decide_eq_true (show decide (decode q.2.1 pc = .ok (.aload i, ln (.aload i)) ∧ nx = pc + ln (.aload i)) = true from hdn)
    subst hn
    replace hs : (decide (i = κ)) = true := hs
    have h3 := of_decide_eq_true hs
    subst h3
    obtain ⟨x, hx, h2⟩ := iR_sp h
    refine x_aload hd ?_
    unfold iR
    rw [hx]
    exact hK _ _ _ _ _ _ h2
  case aload_n i => 
    obtain ⟨hd, hn⟩ := of_decide_eq_true (show decide (decode q.2.1 pc = .ok (.aload_n i, ln (.aload_n i)) ∧ nx = pc + ln (.aload_n i)) = true from hdn)
    subst hn
    replace hs : (decide ((i : Nat) = κ)) = true := hs
    have h3 := of_decide_eq_true hs
    subst h3
    obtain ⟨x, hx, h2⟩ := iR_sp h
    refine x_aload_n hd ?_
    unfold iR
    rw [hx]
    exact hK _ _ _ _ _ _ h2
  case istore i => 
    obtain ⟨hd, hn⟩ := of_decide_eq_true (show decide (decode q.2.1 pc = .ok (.istore i, ln (.istore i)) ∧ nx = pc + ln (.istore i)) = true from hdn)
    subst hn
    replace hs : (decide (i = κ)) = true := hs
    have h3 := of_decide_eq_true hs
    subst h3
    obtain ⟨x, r, rfl, hi, h2⟩ := pI_sp h
    exact x_istore hd ⟨hi, hK _ _ _ _ _ _ h2⟩
  case istore_n i => 
    obtain ⟨hd, hn⟩ := of_decide_eq_true (show decide (decode q.2.1 pc = .ok (.istore_n i, ln (.istore_n i)) ∧ nx = pc + ln (.istore_n i)) = true from hdn)
    subst hn
    replace hs : (decide ((i : Nat) = κ)) = true := hs
    have h3 := of_decide_eq_true hs
    subst h3
    obtain ⟨x, r, rfl, hi, h2⟩ := pI_sp h
    exact x_istore_n hd ⟨hi, hK _ _ _ _ _ _ h2⟩
  case lstore i => 
    obtain ⟨hd, hn⟩ := of_decide_eq_true (show decide (decode q.2.1 pc = .ok (.lstore i, ln (.lstore i)) ∧ nx = pc + ln (.lstore i)) = true from hdn)
    subst hn
    replace hs : (decide (i = κ)) = true := hs
    have h3 := of_decide_eq_true hs
    subst h3
    obtain ⟨x, r, rfl, hi, h2⟩ := pL_sp h
    exact x_lstore hd ⟨hi, hK _ _ _ _ _ _ h2⟩
  case lstore_n i => 
    obtain ⟨hd, hn⟩ := of_decide_eq_true (show decide (decode q.2.1 pc = .ok (.lstore_n i, ln (.lstore_n i)) ∧ nx = pc + ln (.lstore_n i)) = true from hdn)
    subst hn
    replace hs : (decide ((i : Nat) = κ)) = true := hs
    have h3 := of_decide_eq_true hs
    subst h3
    obtain ⟨x, r, rfl, hi, h2⟩ := pL_sp h
    exact x_lstore_n hd ⟨hi, hK _ _ _ _ _ _ h2⟩
  case astore i => 
    obtain ⟨hd, hn⟩ := of_decide_eq_true (show decide (decode q.2.1 pc = .ok (.astore i, ln (.astore i)) ∧ nx = pc + ln (.astore i)) = true from hdn)
    subst hn
    replace hs : (decide (i = κ)) = true := hs
    have h3 := of_decide_eq_true hs
    subst h3
    obtain ⟨x, r, rfl, hi, h2⟩ := pR_sp h
    exact x_astore hd ⟨hi, hK _ _ _ _ _ _ h2⟩
  case astore_n i => 
    obtain ⟨hd, hn⟩ := of_decide_eq_true (show decide (decode q.2.1 pc = .ok (.astore_n i, ln (.astore_n i)) ∧ nx = pc + ln (.astore_n i)) = true from hdn)
    subst hn
    replace hs : (decide ((i : Nat) = κ)) = true := hs
    have h3 := of_decide_eq_true hs
    subst h3
    obtain ⟨x, r, rfl, hi, h2⟩ := pR_sp h
    exact x_astore_n hd ⟨hi, hK _ _ _ _ _ _ h2⟩
  case iinc i n => 
    obtain ⟨hd, hn⟩ := of_decide_eq_true (show decide (decode q.2.1 pc = .ok (.iinc i n, ln (.iinc i n)) ∧ nx = pc + ln (.iinc i n)) = true from hdn)
    subst hn
    replace hs : (decide (i = κ ∧ Int32.ofInt n = kc w)) = true := hs
    obtain ⟨h3, h4⟩ := of_decide_eq_true hs
    subst h3
    obtain ⟨x, hx, hi, h2⟩ := iI_sp h
    refine x_iinc hd ?_
    unfold iI
    rw [hx, h4]
    exact ⟨hi, hK _ _ _ _ _ _ h2⟩
  case dup => 
    obtain ⟨hd, hn⟩ := of_decide_eq_true (show decide (decode q.2.1 pc = .ok (.dup, ln (.dup)) ∧ nx = pc + ln (.dup)) = true from hdn)
    subst hn
    obtain ⟨v, r, rfl, hc, h2⟩ := p1_sp h
    exact x_dup hd ⟨hc, hK _ _ _ _ _ _ h2⟩
  case pop => 
    obtain ⟨hd, hn⟩ := of_decide_eq_true (show decide (decode q.2.1 pc = .ok (.pop, ln (.pop)) ∧ nx = pc + ln (.pop)) = true from hdn)
    subst hn
    obtain ⟨v, r, rfl, hc, h2⟩ := p1_sp h
    exact x_pop hd ⟨hc, hK _ _ _ _ _ _ h2⟩
  case dup2 => 
    obtain ⟨hd, hn⟩ := of_decide_eq_true (show decide (decode q.2.1 pc = .ok (.dup2, ln (.dup2)) ∧ nx = pc + ln (.dup2)) = true from hdn)
    subst hn
    obtain ⟨v, r, rfl, hc, h1⟩ := p1_sp h
    obtain ⟨u, r, rfl, hc2, h2⟩ := p1_sp h1
    exact x_dup2 hd ⟨hc, hc2, hK _ _ _ _ _ _ h2⟩
  case ifCond c off => 
    obtain ⟨hd, hn⟩ := of_decide_eq_true (show decide (decode q.2.1 pc = .ok (.ifCond c off, ln (.ifCond c off)) ∧ nx = pc + ln (.ifCond c off)) = true from hdn)
    subst hn
    replace hs : (decide ((pc : Int) + off = (κ : Int))) = true := hs
    obtain ⟨x, r, rfl, h1, h2⟩ := pI_sp h
    have h3 := of_decide_eq_true hs
    cases c
    case eq => exact x_if_eq h3 hd ⟨fun z => hK _ _ _ _ _ _ (h1 z), fun z => hK _ _ _ _ _ _ (h2 z)⟩
    case ne => exact x_if_ne h3 hd ⟨fun z => hK _ _ _ _ _ _ (h1 z), fun z => hK _ _ _ _ _ _ (h2 (fun y => y z))⟩
    case lt => exact x_if_lt h3 hd ⟨fun z => hK _ _ _ _ _ _ (h1 z), fun z => hK _ _ _ _ _ _ (h2 z)⟩
    case ge => exact x_if_ge h3 hd ⟨fun z => hK _ _ _ _ _ _ (h1 z), fun z => hK _ _ _ _ _ _ (h2 z)⟩
    case gt => exact x_if_gt h3 hd ⟨fun z => hK _ _ _ _ _ _ (h1 z), fun z => hK _ _ _ _ _ _ (h2 z)⟩
    case le => exact x_if_le h3 hd ⟨fun z => hK _ _ _ _ _ _ (h1 z), fun z => hK _ _ _ _ _ _ (h2 z)⟩
  case if_icmp c off => 
    obtain ⟨hd, hn⟩ := of_decide_eq_true (show decide (decode q.2.1 pc = .ok (.if_icmp c off, ln (.if_icmp c off)) ∧ nx = pc + ln (.if_icmp c off)) = true from hdn)
    subst hn
    replace hs : (decide ((pc : Int) + off = (κ : Int))) = true := hs
    obtain ⟨y, r, rfl, h0⟩ := pI_sp h
    obtain ⟨x, r, rfl, h1, h2⟩ := pI_sp h0
    have h3 := of_decide_eq_true hs
    cases c
    case eq => exact x_icmp_eq h3 hd ⟨fun z => hK _ _ _ _ _ _ (h1 z), fun z => hK _ _ _ _ _ _ (h2 z)⟩
    case ne => exact x_icmp_ne h3 hd ⟨fun z => hK _ _ _ _ _ _ (h1 z), fun z => hK _ _ _ _ _ _ (h2 (fun y => y z))⟩
    case lt => exact x_icmp_lt h3 hd ⟨fun z => hK _ _ _ _ _ _ (h1 z), fun z => hK _ _ _ _ _ _ (h2 z)⟩
    case ge => exact x_icmp_ge h3 hd ⟨fun z => hK _ _ _ _ _ _ (h1 z), fun z => hK _ _ _ _ _ _ (h2 z)⟩
    case gt => exact x_icmp_gt h3 hd ⟨fun z => hK _ _ _ _ _ _ (h1 z), fun z => hK _ _ _ _ _ _ (h2 z)⟩
    case le => exact x_icmp_le h3 hd ⟨fun z => hK _ _ _ _ _ _ (h1 z), fun z => hK _ _ _ _ _ _ (h2 z)⟩
  case goto off => 
    obtain ⟨hd, hn⟩ := of_decide_eq_true (show decide (decode q.2.1 pc = .ok (.goto off, ln (.goto off)) ∧ nx = pc + ln (.goto off)) = true from hdn)
    subst hn
    replace hs : (decide ((pc : Int) + off = (κ : Int))) = true := hs
    exact x_goto (of_decide_eq_true hs) hd (hK _ _ _ _ _ _ h)
  case getfield n => 
    obtain ⟨hd, hn⟩ := of_decide_eq_true (show decide (decode q.2.1 pc = .ok (.getfield n, ln (.getfield n)) ∧ nx = pc + ln (.getfield n)) = true from hdn)
    subst hn
    replace hs : (sdGet hl q n κ a) = true := hs
    rcases sdGet_sp hs with ⟨j, tag, C, T, N, rfl, hc, hj, hw, htg, h9⟩ | ⟨rfl, hw⟩ | ⟨rfl, hw⟩
    · obtain ⟨k, r, rfl, hk, h2⟩ := pR_sp h
      refine x_get hc hj hw hd ⟨hk, hK _ _ _ _ _ _ ?_⟩
      rw [fm_tag htg h9]
      exact h2
    · obtain ⟨k, r, rfl, hk, h2⟩ := pR_sp h
      exact x_sval hw hd ⟨hk, hK _ _ _ _ _ _ h2⟩
    · obtain ⟨k, r, rfl, hk, h2⟩ := pR_sp h
      exact x_scod hw hd ⟨hk, hK _ _ _ _ _ _ h2⟩
  case putfield n => 
    obtain ⟨hd, hn⟩ := of_decide_eq_true (show decide (decode q.2.1 pc = .ok (.putfield n, ln (.putfield n)) ∧ nx = pc + ln (.putfield n)) = true from hdn)
    subst hn
    replace hs : (sdPut hl q n κ a) = true := hs
    obtain ⟨j, tag, C, T, N, rfl, hc, hj, hw, htg, h4, hfin⟩ := sdPut_sp hs
    exact x_puts hc hj hw hd hfin htg h4 (put_mono h fun r σ' z => hK _ _ _ _ _ _ z)
  case iaload => 
    obtain ⟨hd, hn⟩ := of_decide_eq_true (show decide (decode q.2.1 pc = .ok (.iaload, ln (.iaload)) ∧ nx = pc + ln (.iaload)) = true from hdn)
    subst hn
    obtain ⟨i, r, rfl, h1⟩ := pI_sp h
    obtain ⟨k, r, rfl, hk, h2⟩ := pR_sp h1
    exact x_iaload hd ⟨hk, hK _ _ _ _ _ _ h2⟩
  case laload => 
    obtain ⟨hd, hn⟩ := of_decide_eq_true (show decide (decode q.2.1 pc = .ok (.laload, ln (.laload)) ∧ nx = pc + ln (.laload)) = true from hdn)
    subst hn
    obtain ⟨i, r, rfl, h1⟩ := pI_sp h
    obtain ⟨k, r, rfl, hk, h2⟩ := pR_sp h1
    exact x_laload hd ⟨hk, hK _ _ _ _ _ _ h2⟩
  case baload => 
    obtain ⟨hd, hn⟩ := of_decide_eq_true (show decide (decode q.2.1 pc = .ok (.baload, ln (.baload)) ∧ nx = pc + ln (.baload)) = true from hdn)
    subst hn
    cases κ with
    | zero =>
      obtain ⟨i, r, rfl, h1⟩ := pI_sp h
      obtain ⟨k, r, rfl, ⟨hk1 | hk1, hk⟩, h2⟩ := pR_sp h1
      · exact x_baloadB hd ⟨⟨hk1, hk⟩, hK _ _ _ _ _ _ h2⟩
      · exact x_baloadZ hd ⟨⟨hk1, hk⟩, hK _ _ _ _ _ _ h2⟩
    | succ κ =>
      obtain ⟨i, r, rfl, h1⟩ := pI_sp h
      obtain ⟨k, r, rfl, hk, h2⟩ := pR_sp h1
      exact x_stbyte hd ⟨hk, hK _ _ _ _ _ _ h2⟩
  case aaload => 
    obtain ⟨hd, hn⟩ := of_decide_eq_true (show decide (decode q.2.1 pc = .ok (.aaload, ln (.aaload)) ∧ nx = pc + ln (.aaload)) = true from hdn)
    subst hn
    obtain ⟨i, r, rfl, h1⟩ := pI_sp h
    obtain ⟨k, r, rfl, hk, h2⟩ := pR_sp h1
    exact x_aaload hd ⟨hk, hK _ _ _ _ _ _ h2⟩
  case arraylength => 
    obtain ⟨hd, hn⟩ := of_decide_eq_true (show decide (decode q.2.1 pc = .ok (.arraylength, ln (.arraylength)) ∧ nx = pc + ln (.arraylength)) = true from hdn)
    subst hn
    cases κ with
    | zero =>
      obtain ⟨k, r, rfl, hk, h2⟩ := pR_sp h
      exact x_alen hd ⟨hk, hK _ _ _ _ _ _ h2⟩
    | succ κ =>
      obtain ⟨k, r, rfl, hk, h2⟩ := pR_sp h
      exact x_stlen hd ⟨hk, hK _ _ _ _ _ _ h2⟩
  case i2c => 
    obtain ⟨hd, hn⟩ := of_decide_eq_true (show decide (decode q.2.1 pc = .ok (.i2c, ln (.i2c)) ∧ nx = pc + ln (.i2c)) = true from hdn)
    subst hn
    obtain ⟨x, r, rfl, h2⟩ := pI_sp h
    exact x_i2c hd (hK _ _ _ _ _ _ h2)
  case getstatic n => 
    obtain ⟨hd, hn⟩ := of_decide_eq_true (show decide (decode q.2.1 pc = .ok (.getstatic n, ln (.getstatic n)) ∧ nx = pc + ln (.getstatic n)) = true from hdn)
    subst hn
    replace hs : (sdGs hl q n κ) = true := hs
    rcases sdGs_sp hs with ⟨rfl, hw⟩ | ⟨i, x, rfl, hx, hw⟩
    · exact x_getsF hw hd (hK _ _ _ _ _ _ h.1) (hK _ _ _ _ _ _ h.2)
    · replace h : (match stT[i]? with
        | some x => K (pc + 3) ce se ls (.int x.2.2.2 :: st) σ
        | none => False) := h
      rw [hx] at h
      exact x_gets hx hw hd (hK _ _ _ _ _ _ h)
  case iastore => 
    obtain ⟨hd, hn⟩ := of_decide_eq_true (show decide (decode q.2.1 pc = .ok (.iastore, ln (.iastore)) ∧ nx = pc + ln (.iastore)) = true from hdn)
    subst hn
    obtain ⟨x, r, rfl, h0⟩ := pI_sp h
    obtain ⟨i, r, rfl, h1⟩ := pI_sp h0
    obtain ⟨k, r, rfl, hk, h2⟩ := pR_sp h1
    exact x_iastore hd ⟨hk, hK _ _ _ _ _ _ h2⟩
  case lastore => 
    obtain ⟨hd, hn⟩ := of_decide_eq_true (show decide (decode q.2.1 pc = .ok (.lastore, ln (.lastore)) ∧ nx = pc + ln (.lastore)) = true from hdn)
    subst hn
    obtain ⟨x, r, rfl, h0⟩ := pL_sp h
    obtain ⟨i, r, rfl, h1⟩ := pI_sp h0
    obtain ⟨k, r, rfl, hk, h2⟩ := pR_sp h1
    exact x_lastore hd ⟨hk, hK _ _ _ _ _ _ h2⟩
  case bastore => 
    obtain ⟨hd, hn⟩ := of_decide_eq_true (show decide (decode q.2.1 pc = .ok (.bastore, ln (.bastore)) ∧ nx = pc + ln (.bastore)) = true from hdn)
    subst hn
    cases κ with
    | zero =>
      obtain ⟨x, r, rfl, h0⟩ := pI_sp h
      obtain ⟨i, r, rfl, h1⟩ := pI_sp h0
      obtain ⟨k, r, rfl, hk, h2⟩ := pR_sp h1
      exact x_bastoreB hd ⟨hk, hK _ _ _ _ _ _ h2⟩
    | succ κ =>
      obtain ⟨x, r, rfl, h0⟩ := pI_sp h
      obtain ⟨i, r, rfl, h1⟩ := pI_sp h0
      obtain ⟨k, r, rfl, hk, h2⟩ := pR_sp h1
      exact x_bastoreZ hd ⟨hk, hK _ _ _ _ _ _ h2⟩
  case aastore => 
    obtain ⟨hd, hn⟩ := of_decide_eq_true (show decide (decode q.2.1 pc = .ok (.aastore, ln (.aastore)) ∧ nx = pc + ln (.aastore)) = true from hdn)
    subst hn
    obtain ⟨v, r, rfl, h0⟩ := pR_sp h
    obtain ⟨i, r, rfl, h1⟩ := pI_sp h0
    obtain ⟨k, r, rfl, hk, h2⟩ := pR_sp h1
    exact x_aastore hd ⟨hk, hK _ _ _ _ _ _ h2⟩
  case ireturn => 
    obtain ⟨hd, hn⟩ := of_decide_eq_true (show decide (decode q.2.1 pc = .ok (.ireturn, ln (.ireturn)) ∧ nx = pc + ln (.ireturn)) = true from hdn)
    subst hn
    replace hs : (decide ((κ = 0 ∧ q.2.2.2 = some .int) ∨ (κ = 1 ∧ q.2.2.2 = some .boolean) ∨ (κ = 2 ∧ q.2.2.2 = some .char) ∨ (κ = 3 ∧ q.2.2.2 = some .byte))) = true := hs
    rcases of_decide_eq_true hs with ⟨rfl, hr⟩ | ⟨rfl, hr⟩ | ⟨rfl, hr⟩ | ⟨rfl, hr⟩
    · exact x_ireturn hr hd h
    · exact x_zreturn hr hd h
    · exact x_nreturn hr hd h
    · exact x_nreturn hr hd h
  case return_ => 
    obtain ⟨hd, hn⟩ := of_decide_eq_true (show decide (decode q.2.1 pc = .ok (.return_, ln (.return_)) ∧ nx = pc + ln (.return_)) = true from hdn)
    subst hn
    replace hs : (decide (q.2.2.2 = none)) = true := hs
    exact x_return (of_decide_eq_true hs) hd h
  case areturn => 
    obtain ⟨hd, hn⟩ := of_decide_eq_true (show decide (decode q.2.1 pc = .ok (.areturn, ln (.areturn)) ∧ nx = pc + ln (.areturn)) = true from hdn)
    subst hn
    replace hs : (decide (q.2.2.2 = some (.array .int))) = true := hs
    exact x_areturn (of_decide_eq_true hs) hd h
  case invokevirtual n => 
    obtain ⟨hd, hn⟩ := of_decide_eq_true (show decide (decode q.2.1 pc = .ok (.invokevirtual n, ln (.invokevirtual n)) ∧ nx = pc + ln (.invokevirtual n)) = true from hdn)
    subst hn
    replace hs : (sdIv hl q n a w) = true := hs
    rcases sdIv_sp hs with ⟨na, ci, mc, ms, y, b, ml, rt, C, T, N, rfl, rfl, hc, h1, w1, w2, w3, w4, w5, hds, hml⟩ | ⟨na, y, b, ml, rt, rfl, rfl, h1, w1, w2, w3, w4, w5, hds, hml⟩
    · exact x_invV (q' := (y, b, ml, rt)) hc h1 w1 w2 w3 w4 w5 hds hml hd ⟨h.1, h.2.1, h.2.2.1, Con_mono h.2.2.2 fun v σ' z => hK _ _ _ _ _ _ z⟩
    · exact x_invVS (q' := (y, b, ml, rt)) h1 w1 w2 w3 w4 w5 hds hml hd ⟨h.1, h.2.1, h.2.2.1, Con_mono h.2.2.2 fun v σ' z => hK _ _ _ _ _ _ z⟩
  case invokestatic n => 
    obtain ⟨hd, hn⟩ := of_decide_eq_true (show decide (decode q.2.1 pc = .ok (.invokestatic n, ln (.invokestatic n)) ∧ nx = pc + ln (.invokestatic n)) = true from hdn)
    subst hn
    replace hs : (sdIs hl q n κ a w) = true := hs
    rcases sdIs_sp hs with ⟨na, mc, ms, y, b, ml, rt, rfl, rfl, rfl, w1, w2, w4, w5, hds, hml⟩ | ⟨rfl, w1, w2, w3, w4⟩ | ⟨rfl, w1, w2, w3, w4⟩
    · exact x_invS (q' := (y, b, ml, rt)) w1 w2 w4 w5 hds hml hd ⟨h.1, h.2.1, h.2.2.1, Con_mono h.2.2.2 fun v σ' z => hK _ _ _ _ _ _ z⟩
    · obtain ⟨y, r, rfl, h1⟩ := pI_sp h.2
      obtain ⟨x, r, rfl, h2, h3⟩ := pI_sp h1
      exact x_mmin w1 w2 w3 w4 hd ⟨h.1, h2, hK _ _ _ _ _ _ h3⟩
    · obtain ⟨y, r, rfl, h1⟩ := pI_sp h.2
      obtain ⟨x, r, rfl, h2, h3⟩ := pI_sp h1
      exact x_mmax w1 w2 w3 w4 hd ⟨h.1, h2, hK _ _ _ _ _ _ h3⟩
  case invokespecial n => 
    obtain ⟨hd, hn⟩ := of_decide_eq_true (show decide (decode q.2.1 pc = .ok (.invokespecial n, ln (.invokespecial n)) ∧ nx = pc + ln (.invokespecial n)) = true from hdn)
    subst hn
    replace hs : (sdIp hl q n κ a w) = true := hs
    rcases sdIp_sp hs with ⟨na, mc, ms, y, b, ml, rt, rfl, rfl, rfl, h1, h2, w1, w2, w4, w5, hds, hml⟩ | ⟨rfl, w1, w2, w3⟩
    · exact x_invI (q' := (y, b, ml, rt)) h1 h2 w1 w2 w4 w5 hds hml hd ⟨h.1, h.2.1, ⟨isRefA_sp h.2.2.1.1, h.2.2.1.2⟩, Con_mono h.2.2.2 fun v σ' z => hK _ _ _ _ _ _ z⟩
    · obtain ⟨k, r, rfl, h1, h2⟩ := pR_sp h.2
      exact x_objInit w1 w2 w3 hd ⟨h.1, h1, hK _ _ _ _ _ _ h2⟩
  case new n => 
    obtain ⟨hd, hn⟩ := of_decide_eq_true (show decide (decode q.2.1 pc = .ok (.new n, ln (.new n)) ∧ nx = pc + ln (.new n)) = true from hdn)
    subst hn
    replace hs : (sdNew hl q n κ) = true := hs
    obtain ⟨C, T, N, hc, w1, w2, w3⟩ := sdNew_sp hs
    replace h : (sh (gN σ) = (0, κ) ∧ gN σ < 107 ∧ ce + 1 ≤ cf ∧ se + nOf κ ≤ sf) ∧ K (pc + 3) (ce + 1) (se + nOf κ) ls (.ref (gN σ) :: st) (sN σ) := h
    rw [nOf_eq hc] at h
    exact x_new hc w1 w2 w3 hd ⟨h.1, hK _ _ _ _ _ _ h.2⟩
  case newarray ty => 
    obtain ⟨hd, hn⟩ := of_decide_eq_true (show decide (decode q.2.1 pc = .ok (.newarray ty, ln (.newarray ty)) ∧ nx = pc + ln (.newarray ty)) = true from hdn)
    subst hn
    replace hs : (decide (newarray.typeOf ty = aty (κ + 1) ∧ κ < 4 ∧ mW hl (.arrayClass (aty (κ + 1))) = true)) = true := hs
    obtain ⟨h1, h2, h3⟩ := of_decide_eq_true hs
    obtain ⟨x, r, rfl, h4, h5⟩ := pI_sp h
    exact x_newa h1 h2 (mW_sp h3) hd ⟨h4, hK _ _ _ _ _ _ h5⟩
  case anewarray n => 
    obtain ⟨hd, hn⟩ := of_decide_eq_true (show decide (decode q.2.1 pc = .ok (.anewarray n, ln (.anewarray n)) ∧ nx = pc + ln (.anewarray n)) = true from hdn)
    subst hn
    replace hs : (sdAn hl q n κ w) = true := hs
    obtain ⟨C, h1, h2, h3⟩ := sdAn_sp hs
    obtain ⟨x, r, rfl, h4, h5⟩ := pI_sp h
    exact x_anew h1 h2 h3 hd ⟨h4, hK _ _ _ _ _ _ h5⟩
  case multianewarray n k => 
    obtain ⟨hd, hn⟩ := of_decide_eq_true (show decide (decode q.2.1 pc = .ok (.multianewarray n k, ln (.multianewarray n k)) ∧ nx = pc + ln (.multianewarray n k)) = true from hdn)
    subst hn
    replace hs : (sdMn hl q n k κ a w) = true := hs
    obtain ⟨ty, rfl, h1, h2, h3, h6⟩ := sdMn_sp hs
    obtain ⟨x, r, rfl, h7⟩ := pI_sp h
    obtain ⟨y, r, rfl, h4, h5⟩ := pI_sp h7
    exact x_mnew h1 h2 h3 h6 hd ⟨h4, hK _ _ _ _ _ _ h5⟩
  case tableswitch dflt lo hi offs =>
    have hd := of_decide_eq_true (show decide (decode q.2.1 pc = .ok (.tableswitch dflt lo hi offs, nx - pc)) = true from hdn)
    obtain ⟨h1, h2, h3⟩ := of_decide_eq_true hs
    obtain ⟨x, r, rfl, h4, h5⟩ := pI_sp h
    intro base ρ D aC p l e s m args below meth c H locs lsJ hfl C hW hS hL hZ
    by_cases hx : x.toInt < lo ∨ hi < x.toInt
    · exact lv_tableOut C.1 C.2.1 hd hx h1 (hK _ _ _ _ _ _ (h5 hx) base ρ D aC p l e s m args below meth c H locs lsJ hfl C hW hS hL hZ)
    · have hl : offs.toList.length = a.length := by simpa using congrArg List.length h2
      have hi2 : (x.toInt - lo).toNat < a.length := by omega
      have h6 : a[(x.toInt - lo).toNat]? = some (a[(x.toInt - lo).toNat]) := List.getElem?_eq_getElem hi2
      have h7 := congrArg (fun l => l[(x.toInt - lo).toNat]?) h2
      simp only [List.getElem?_map, h6, Option.map_some] at h7
      cases ho : offs.toList[(x.toInt - lo).toNat]? with
      | none => rw [ho] at h7; cases h7
      | some off =>
        rw [ho, Option.map_some, Option.some.injEq] at h7
        have h8 : X d q n0 cf sf Rt (a[(x.toInt - lo).toNat]) ce se ls r σ := sw_sp (g := fun t => X d q n0 cf sf Rt t ce se ls r σ) (fun t z => hK _ _ _ _ _ _ z) a lo _ _ h4 h6 (by omega)
        exact lv_tableIn C.1 C.2.1 hd (fun z => hx (Or.inl z)) (fun z => hx (Or.inr z)) (by rw [← Array.getElem?_toList]; exact ho) h7 (h8 base ρ D aC p l e s m args below meth c H locs lsJ hfl C hW hS hL hZ)
  case lookupswitch dflt ps =>
    have hd := of_decide_eq_true (show decide (decode q.2.1 pc = .ok (.lookupswitch dflt ps, nx - pc)) = true from hdn)
    obtain ⟨hs1, hs2⟩ := Bool.and_eq_true_iff.mp hs
    obtain ⟨h1, h2⟩ := of_decide_eq_true hs1
    obtain ⟨x, r, rfl, h4⟩ := pI_sp h
    obtain ⟨t, h5, h6⟩ := swp_sp h1 _ _ h4 h2
    intro base ρ D aC p l e s m args below meth c H locs lsJ hfl C hW hS hL hZ
    exact lv_lookup C.1 C.2.1 hd hs2 rfl h5 (hK _ _ _ _ _ _ h6 base ρ D aC p l e s m args below meth c H locs lsJ hfl C hW hS hL hZ)
  all_goals exact (show False from h).elim
end XSTEP
