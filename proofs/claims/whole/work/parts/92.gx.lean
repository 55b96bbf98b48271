/-! the machine once more, with another end -/
abbrev GP : Type := Room × Nat × Nat × (Nat → (Nat → Nat) → Program → State → MethodId → Array Value → Code → Prop) × (Nat → (Nat → Nat) → va_G → (Nat → ClassId) → List Frame → Array Value → State → Method → Code → State → Prop)
abbrev GP.R (g : GP) : Room := g.1
abbrev GP.c0 (g : GP) : Nat := g.2.1
abbrev GP.s0 (g : GP) : Nat := g.2.2.1
abbrev GP.pre (g : GP) : Nat → (Nat → Nat) → Program → State → MethodId → Array Value → Code → Prop := g.2.2.2.1
abbrev GP.post (g : GP) : Nat → (Nat → Nat) → va_G → (Nat → ClassId) → List Frame → Array Value → State → Method → Code → State → Prop := g.2.2.2.2
def noR : Option Value → St → Prop := fun _ _ => False
def GG.Cx (q : MI) (base : Nat) (ρ : Nat → Nat) (D : va_G) (aC : Nat → ClassId) (p : Program) (s : State) (m : MethodId) (args : Array Value) (meth : Method) (c : Code) : Prop :=
  p.tables.exec = Jvm.exec ∧ c.code = q.2.1 ∧ c.maxLocals = q.2.2.1 ∧ meth.sig.returnType = q.2.2.2 ∧ s.vm.findClass q.1.cls = some m.cls ∧ meth.locks = false ∧ True ∧ (∀ w ∈ WT, w.before args s = true) ∧ va_K D vwCl (tysOf aC) s ∧ Ex base ρ s
def GG.X (d : Nat) (q : MI) (n0 cf sf : Nat) (Rt : GP) (pc ce se : Nat) (ls st : List Value) (σ : St) : Prop :=
  ∀ (base : Nat) (ρ : Nat → Nat) (D : va_G) (aC : Nat → ClassId) (p : Program) (l : Launch) (e : Env) (s : State) (m : MethodId) (args : Array Value) (below : List Frame) (meth : Method) (c : Code) (H : Heap) (locs : List Loc) (lsJ : Array Slot),
    (l.flags = flags0 ∧ (d ≤ Rt.R.frames ∧ 40 * d ≤ Rt.R.locals ∧ Rt.c0 + cf ≤ Rt.R.cells ∧ Rt.s0 + sf ≤ Rt.R.slots) ∧ Rt.pre base ρ p s m args c) → Cx q base ρ D aC p s m args meth c → Wd base ρ D aC σ H → va_S (Ab base) s.heap H locs → Lo ρ ls lsJ q.2.2.1 → ((0 < cf → s.heap.size + Rt.c0 ≤ base + n0) ∧ n0 + ce ≤ gN σ) →
    W p l e Rt.R s m args below meth c H locs (Rt.c0 + ce) (Rt.s0 + se) (Rt.post base ρ D aC below args s meth c) (F0 m pc lsJ (st.map (lf ρ)))
theorem GG.x_sz {base n0 cf ce se : Nat} {σ : St} {p : Program} {l : Launch} {e : Env} {s : State} {m : MethodId} {args : Array Value} {below : List Frame} {meth : Method} {c : Code} {T : State} {locs : List Loc} {R : Room} {mc c0 s0 : Nat} (X9 : Stand p l e R s m args below meth c T locs (c0 + ce) (s0 + se)) (hZ : (0 < cf → s.heap.size + c0 ≤ base + n0) ∧ n0 + ce ≤ gN σ) (hm : ce + mc ≤ cf) : 0 < mc → T.heap.size ≤ base + gN σ := by
  intro h
  have h1 := X9.heapSize
  have h2 := hZ.1 (by omega)
  have h3 := hZ.2
  omega
theorem GG.sz_eq {base : Nat} {ρ : Nat → Nat} {D : va_G} {aC : Nat → ClassId} {σ : St} {p : Program} {l : Launch} {e : Env} {R : Room} {s : State} {m : MethodId} {args : Array Value} {below : List Frame} {meth : Method} {c : Code} {T : State} {H : Heap} {locs : List Loc} {n0 cf ce se c0 s0 : Nat} (X9 : Stand p l e R s m args below meth c T locs (c0 + ce) (s0 + se)) (hT : T.heap = H) (hW : Wd base ρ D aC σ H) (hZ : (0 < cf → s.heap.size + c0 ≤ base + n0) ∧ n0 + ce ≤ gN σ) (hc : 0 < cf) : H.size = base + gN σ := by
  have h1 := X9.heapSize
  have h2 := hZ.1 hc
  have h3 := hZ.2
  have h4 := hW.2.2
  rw [hT] at h1
  omega
section GXS
variable {d : Nat} {q : MI} {n0 cf sf : Nat} {Rt : GP} {pc ce se : Nat} {ls st : List Value} {σ : St}
theorem GG.x_iadd (hd : decode q.2.1 pc = .ok (.iadd, 1)) (h : pI st fun y r => pI r fun x r => X d q n0 cf sf Rt (pc + 1) ce se ls (.int (x + y) :: r) σ) : X d q n0 cf sf Rt pc ce se ls st σ := by
  obtain ⟨y, r, rfl, h1⟩ := pI_sp h
  obtain ⟨x, r, rfl, h⟩ := pI_sp h1
  intro base ρ D aC p l e s m args below meth c H locs lsJ hfl C hW hS hL hZ
  exact lv_iadd C.1 C.2.1 hd (h base ρ D aC p l e s m args below meth c H locs lsJ hfl C hW hS hL hZ)
theorem GG.x_isub (hd : decode q.2.1 pc = .ok (.isub, 1)) (h : pI st fun y r => pI r fun x r => X d q n0 cf sf Rt (pc + 1) ce se ls (.int (x - y) :: r) σ) : X d q n0 cf sf Rt pc ce se ls st σ := by
  obtain ⟨y, r, rfl, h1⟩ := pI_sp h
  obtain ⟨x, r, rfl, h⟩ := pI_sp h1
  intro base ρ D aC p l e s m args below meth c H locs lsJ hfl C hW hS hL hZ
  exact lv_isub C.1 C.2.1 hd (h base ρ D aC p l e s m args below meth c H locs lsJ hfl C hW hS hL hZ)
theorem GG.x_imul (hd : decode q.2.1 pc = .ok (.imul, 1)) (h : pI st fun y r => pI r fun x r => X d q n0 cf sf Rt (pc + 1) ce se ls (.int (x * y) :: r) σ) : X d q n0 cf sf Rt pc ce se ls st σ := by
  obtain ⟨y, r, rfl, h1⟩ := pI_sp h
  obtain ⟨x, r, rfl, h⟩ := pI_sp h1
  intro base ρ D aC p l e s m args below meth c H locs lsJ hfl C hW hS hL hZ
  exact lv_imul C.1 C.2.1 hd (h base ρ D aC p l e s m args below meth c H locs lsJ hfl C hW hS hL hZ)
theorem GG.x_iand (hd : decode q.2.1 pc = .ok (.iand, 1)) (h : pI st fun y r => pI r fun x r => X d q n0 cf sf Rt (pc + 1) ce se ls (.int (x &&& y) :: r) σ) : X d q n0 cf sf Rt pc ce se ls st σ := by
  obtain ⟨y, r, rfl, h1⟩ := pI_sp h
  obtain ⟨x, r, rfl, h⟩ := pI_sp h1
  intro base ρ D aC p l e s m args below meth c H locs lsJ hfl C hW hS hL hZ
  exact lv_iand C.1 C.2.1 hd (h base ρ D aC p l e s m args below meth c H locs lsJ hfl C hW hS hL hZ)
theorem GG.x_ior (hd : decode q.2.1 pc = .ok (.ior, 1)) (h : pI st fun y r => pI r fun x r => X d q n0 cf sf Rt (pc + 1) ce se ls (.int (x ||| y) :: r) σ) : X d q n0 cf sf Rt pc ce se ls st σ := by
  obtain ⟨y, r, rfl, h1⟩ := pI_sp h
  obtain ⟨x, r, rfl, h⟩ := pI_sp h1
  intro base ρ D aC p l e s m args below meth c H locs lsJ hfl C hW hS hL hZ
  exact lv_ior C.1 C.2.1 hd (h base ρ D aC p l e s m args below meth c H locs lsJ hfl C hW hS hL hZ)
theorem GG.x_ishl (hd : decode q.2.1 pc = .ok (.ishl, 1)) (h : pI st fun y r => pI r fun x r => X d q n0 cf sf Rt (pc + 1) ce se ls (.int (x <<< (y &&& 31)) :: r) σ) : X d q n0 cf sf Rt pc ce se ls st σ := by
  obtain ⟨y, r, rfl, h1⟩ := pI_sp h
  obtain ⟨x, r, rfl, h⟩ := pI_sp h1
  intro base ρ D aC p l e s m args below meth c H locs lsJ hfl C hW hS hL hZ
  exact lv_ishl C.1 C.2.1 hd (h base ρ D aC p l e s m args below meth c H locs lsJ hfl C hW hS hL hZ)
theorem GG.x_ishr (hd : decode q.2.1 pc = .ok (.ishr, 1)) (h : pI st fun y r => pI r fun x r => X d q n0 cf sf Rt (pc + 1) ce se ls (.int (x >>> (y &&& 31)) :: r) σ) : X d q n0 cf sf Rt pc ce se ls st σ := by
  obtain ⟨y, r, rfl, h1⟩ := pI_sp h
  obtain ⟨x, r, rfl, h⟩ := pI_sp h1
  intro base ρ D aC p l e s m args below meth c H locs lsJ hfl C hW hS hL hZ
  exact lv_ishr C.1 C.2.1 hd (h base ρ D aC p l e s m args below meth c H locs lsJ hfl C hW hS hL hZ)
theorem GG.x_idiv (hd : decode q.2.1 pc = .ok (.idiv, 1)) (h : pI st fun y r => pI r fun x r => ¬ y = 0 ∧ X d q n0 cf sf Rt (pc + 1) ce se ls (.int (x / y) :: r) σ) : X d q n0 cf sf Rt pc ce se ls st σ := by
  obtain ⟨y, r, rfl, h1⟩ := pI_sp h
  obtain ⟨x, r, rfl, hn, h⟩ := pI_sp h1
  intro base ρ D aC p l e s m args below meth c H locs lsJ hfl C hW hS hL hZ
  exact lv_idiv C.1 C.2.1 hd hn (h base ρ D aC p l e s m args below meth c H locs lsJ hfl C hW hS hL hZ)
theorem GG.x_irem (hd : decode q.2.1 pc = .ok (.irem, 1)) (h : pI st fun y r => pI r fun x r => ¬ y = 0 ∧ X d q n0 cf sf Rt (pc + 1) ce se ls (.int (x - x / y * y) :: r) σ) : X d q n0 cf sf Rt pc ce se ls st σ := by
  obtain ⟨y, r, rfl, h1⟩ := pI_sp h
  obtain ⟨x, r, rfl, hn, h⟩ := pI_sp h1
  intro base ρ D aC p l e s m args below meth c H locs lsJ hfl C hW hS hL hZ
  exact lv_irem C.1 C.2.1 hd hn (h base ρ D aC p l e s m args below meth c H locs lsJ hfl C hW hS hL hZ)
theorem GG.x_ladd (hd : decode q.2.1 pc = .ok (.ladd, 1)) (h : pL st fun y r => pL r fun x r => X d q n0 cf sf Rt (pc + 1) ce se ls (.long (x + y) :: r) σ) : X d q n0 cf sf Rt pc ce se ls st σ := by
  obtain ⟨y, r, rfl, h1⟩ := pL_sp h
  obtain ⟨x, r, rfl, h⟩ := pL_sp h1
  intro base ρ D aC p l e s m args below meth c H locs lsJ hfl C hW hS hL hZ
  exact lv_ladd C.1 C.2.1 hd (h base ρ D aC p l e s m args below meth c H locs lsJ hfl C hW hS hL hZ)
theorem GG.x_lsub (hd : decode q.2.1 pc = .ok (.lsub, 1)) (h : pL st fun y r => pL r fun x r => X d q n0 cf sf Rt (pc + 1) ce se ls (.long (x - y) :: r) σ) : X d q n0 cf sf Rt pc ce se ls st σ := by
  obtain ⟨y, r, rfl, h1⟩ := pL_sp h
  obtain ⟨x, r, rfl, h⟩ := pL_sp h1
  intro base ρ D aC p l e s m args below meth c H locs lsJ hfl C hW hS hL hZ
  exact lv_lsub C.1 C.2.1 hd (h base ρ D aC p l e s m args below meth c H locs lsJ hfl C hW hS hL hZ)
theorem GG.x_lmul (hd : decode q.2.1 pc = .ok (.lmul, 1)) (h : pL st fun y r => pL r fun x r => X d q n0 cf sf Rt (pc + 1) ce se ls (.long (x * y) :: r) σ) : X d q n0 cf sf Rt pc ce se ls st σ := by
  obtain ⟨y, r, rfl, h1⟩ := pL_sp h
  obtain ⟨x, r, rfl, h⟩ := pL_sp h1
  intro base ρ D aC p l e s m args below meth c H locs lsJ hfl C hW hS hL hZ
  exact lv_lmul C.1 C.2.1 hd (h base ρ D aC p l e s m args below meth c H locs lsJ hfl C hW hS hL hZ)
theorem GG.x_lor (hd : decode q.2.1 pc = .ok (.lor, 1)) (h : pL st fun y r => pL r fun x r => X d q n0 cf sf Rt (pc + 1) ce se ls (.long (x ||| y) :: r) σ) : X d q n0 cf sf Rt pc ce se ls st σ := by
  obtain ⟨y, r, rfl, h1⟩ := pL_sp h
  obtain ⟨x, r, rfl, h⟩ := pL_sp h1
  intro base ρ D aC p l e s m args below meth c H locs lsJ hfl C hW hS hL hZ
  exact lv_lor C.1 C.2.1 hd (h base ρ D aC p l e s m args below meth c H locs lsJ hfl C hW hS hL hZ)
theorem GG.x_land (hd : decode q.2.1 pc = .ok (.land, 1)) (h : pL st fun y r => pL r fun x r => X d q n0 cf sf Rt (pc + 1) ce se ls (.long (x &&& y) :: r) σ) : X d q n0 cf sf Rt pc ce se ls st σ := by
  obtain ⟨y, r, rfl, h1⟩ := pL_sp h
  obtain ⟨x, r, rfl, h⟩ := pL_sp h1
  intro base ρ D aC p l e s m args below meth c H locs lsJ hfl C hW hS hL hZ
  exact lv_land C.1 C.2.1 hd (h base ρ D aC p l e s m args below meth c H locs lsJ hfl C hW hS hL hZ)
theorem GG.x_ldiv (hd : decode q.2.1 pc = .ok (.ldiv, 1)) (h : pL st fun y r => pL r fun x r => ¬ y = 0 ∧ X d q n0 cf sf Rt (pc + 1) ce se ls (.long (x / y) :: r) σ) : X d q n0 cf sf Rt pc ce se ls st σ := by
  obtain ⟨y, r, rfl, h1⟩ := pL_sp h
  obtain ⟨x, r, rfl, hn, h⟩ := pL_sp h1
  intro base ρ D aC p l e s m args below meth c H locs lsJ hfl C hW hS hL hZ
  exact lv_ldiv C.1 C.2.1 hd hn (h base ρ D aC p l e s m args below meth c H locs lsJ hfl C hW hS hL hZ)
theorem GG.x_lshl (hd : decode q.2.1 pc = .ok (.lshl, 1)) (h : pI st fun y r => pL r fun x r => X d q n0 cf sf Rt (pc + 1) ce se ls (.long (x <<< (y.toInt64 &&& 63)) :: r) σ) : X d q n0 cf sf Rt pc ce se ls st σ := by
  obtain ⟨y, r, rfl, h1⟩ := pI_sp h
  obtain ⟨x, r, rfl, h⟩ := pL_sp h1
  intro base ρ D aC p l e s m args below meth c H locs lsJ hfl C hW hS hL hZ
  exact lv_lshl C.1 C.2.1 hd rfl (h base ρ D aC p l e s m args below meth c H locs lsJ hfl C hW hS hL hZ)
theorem GG.x_lcmp (hd : decode q.2.1 pc = .ok (.lcmp, 1)) (h : pL st fun y r => pL r fun x r => X d q n0 cf sf Rt (pc + 1) ce se ls (.int (lg_cmp x y) :: r) σ) : X d q n0 cf sf Rt pc ce se ls st σ := by
  obtain ⟨y, r, rfl, h1⟩ := pL_sp h
  obtain ⟨x, r, rfl, h⟩ := pL_sp h1
  intro base ρ D aC p l e s m args below meth c H locs lsJ hfl C hW hS hL hZ
  exact W.lcmp C.1 C.2.1 hd (h base ρ D aC p l e s m args below meth c H locs lsJ hfl C hW hS hL hZ)
theorem GG.x_i2l (hd : decode q.2.1 pc = .ok (.i2l, 1)) (h : pI st fun x r => X d q n0 cf sf Rt (pc + 1) ce se ls (.long x.toInt64 :: r) σ) : X d q n0 cf sf Rt pc ce se ls st σ := by
  obtain ⟨x, r, rfl, h⟩ := pI_sp h
  intro base ρ D aC p l e s m args below meth c H locs lsJ hfl C hW hS hL hZ
  exact lv_i2l C.1 C.2.1 hd rfl (h base ρ D aC p l e s m args below meth c H locs lsJ hfl C hW hS hL hZ)
theorem GG.x_i2b (hd : decode q.2.1 pc = .ok (.i2b, 1)) (h : pI st fun x r => X d q n0 cf sf Rt (pc + 1) ce se ls (.int x.toInt8.toInt32 :: r) σ) : X d q n0 cf sf Rt pc ce se ls st σ := by
  obtain ⟨x, r, rfl, h⟩ := pI_sp h
  intro base ρ D aC p l e s m args below meth c H locs lsJ hfl C hW hS hL hZ
  exact lv_i2b C.1 C.2.1 hd rfl (h base ρ D aC p l e s m args below meth c H locs lsJ hfl C hW hS hL hZ)
theorem GG.x_l2i (hd : decode q.2.1 pc = .ok (.l2i, 1)) (h : pL st fun x r => X d q n0 cf sf Rt (pc + 1) ce se ls (.int x.toInt32 :: r) σ) : X d q n0 cf sf Rt pc ce se ls st σ := by
  obtain ⟨x, r, rfl, h⟩ := pL_sp h
  intro base ρ D aC p l e s m args below meth c H locs lsJ hfl C hW hS hL hZ
  exact lv_l2i C.1 C.2.1 hd rfl (h base ρ D aC p l e s m args below meth c H locs lsJ hfl C hW hS hL hZ)
theorem GG.x_iconst {n : Int} (hd : decode q.2.1 pc = .ok (.iconst n, 1)) (h : X d q n0 cf sf Rt (pc + 1) ce se ls (.int (Int32.ofInt n) :: st) σ) : X d q n0 cf sf Rt pc ce se ls st σ := by
  intro base ρ D aC p l e s m args below meth c H locs lsJ hfl C hW hS hL hZ
  exact lv_iconst C.1 C.2.1 hd rfl (h base ρ D aC p l e s m args below meth c H locs lsJ hfl C hW hS hL hZ)
theorem GG.x_bipush {n : Int} (hd : decode q.2.1 pc = .ok (.bipush n, 2)) (h : X d q n0 cf sf Rt (pc + 2) ce se ls (.int (Int8.ofInt n).toInt32 :: st) σ) : X d q n0 cf sf Rt pc ce se ls st σ := by
  intro base ρ D aC p l e s m args below meth c H locs lsJ hfl C hW hS hL hZ
  exact lv_bipush C.1 C.2.1 hd rfl (h base ρ D aC p l e s m args below meth c H locs lsJ hfl C hW hS hL hZ)
theorem GG.x_sipush {n : Int} (hd : decode q.2.1 pc = .ok (.sipush n, 3)) (h : X d q n0 cf sf Rt (pc + 3) ce se ls (.int (Int16.ofInt n).toInt32 :: st) σ) : X d q n0 cf sf Rt pc ce se ls st σ := by
  intro base ρ D aC p l e s m args below meth c H locs lsJ hfl C hW hS hL hZ
  exact lv_sipush C.1 C.2.1 hd rfl (h base ρ D aC p l e s m args below meth c H locs lsJ hfl C hW hS hL hZ)
theorem GG.x_lconst {n : Fin 2} (hd : decode q.2.1 pc = .ok (.lconst n, 1)) (h : X d q n0 cf sf Rt (pc + 1) ce se ls (.long (Int64.ofNat (n : Nat)) :: st) σ) : X d q n0 cf sf Rt pc ce se ls st σ := by
  intro base ρ D aC p l e s m args below meth c H locs lsJ hfl C hW hS hL hZ
  exact lv_lconst C.1 C.2.1 hd rfl (h base ρ D aC p l e s m args below meth c H locs lsJ hfl C hW hS hL hZ)
theorem GG.x_ldc {n : Nat} {v : Int32} (hw : .constant q.1.cls n v ∈ WT) (hd : decode q.2.1 pc = .ok (.ldc n, 2)) (h : X d q n0 cf sf Rt (pc + 2) ce se ls (.int v :: st) σ) : X d q n0 cf sf Rt pc ce se ls st σ := by
  intro base ρ D aC p l e s m args below meth c H locs lsJ hfl C hW hS hL hZ
  exact lv_ldc C.1 C.2.1 C.2.2.2.2.1 (C.2.2.2.2.2.2.2.1 _ hw) hd (h base ρ D aC p l e s m args below meth c H locs lsJ hfl C hW hS hL hZ)
theorem GG.x_ldcw {n : Nat} {v : Int32} (hw : .constant q.1.cls n v ∈ WT) (hd : decode q.2.1 pc = .ok (.ldc_w n, 3)) (h : X d q n0 cf sf Rt (pc + 3) ce se ls (.int v :: st) σ) : X d q n0 cf sf Rt pc ce se ls st σ := by
  intro base ρ D aC p l e s m args below meth c H locs lsJ hfl C hW hS hL hZ
  exact lv_ldcw C.1 C.2.1 C.2.2.2.2.1 (C.2.2.2.2.2.2.2.1 _ hw) hd (h base ρ D aC p l e s m args below meth c H locs lsJ hfl C hW hS hL hZ)
theorem GG.x_ldc2 {n : Nat} {v : Int64} (hw : .constantLong q.1.cls n v ∈ WT) (hd : decode q.2.1 pc = .ok (.ldc2_w n, 3)) (h : X d q n0 cf sf Rt (pc + 3) ce se ls (.long v :: st) σ) : X d q n0 cf sf Rt pc ce se ls st σ := by
  intro base ρ D aC p l e s m args below meth c H locs lsJ hfl C hW hS hL hZ
  exact lv_ldc2 C.1 C.2.1 C.2.2.2.2.1 (C.2.2.2.2.2.2.2.1 _ hw) hd (h base ρ D aC p l e s m args below meth c H locs lsJ hfl C hW hS hL hZ)
theorem GG.x_ldcS {n i : Nat} {tx : String} (hi : strT[i]? = some (q.1.cls, n, tx)) (hd : decode q.2.1 pc = .ok (.ldc n, 2)) (h : X d q n0 cf sf Rt (pc + 2) ce se ls (.ref (1000 + i) :: st) σ) : X d q n0 cf sf Rt pc ce se ls st σ := by
  intro base ρ D aC p l e s m args below meth c H locs lsJ hfl C hW hS hL hZ
  exact va_ldcS C.1 C.2.1 C.2.2.2.2.1 (C.2.2.2.2.2.2.2.2.2.2.2.2.1 i _ hi) hd (h base ρ D aC p l e s m args below meth c H locs lsJ hfl C hW hS hL hZ)
theorem GG.x_iload {i : Nat} (hd : decode q.2.1 pc = .ok (.iload i, 2)) (h : iI ls i fun x => X d q n0 cf sf Rt (pc + 2) ce se ls (.int x :: st) σ) : X d q n0 cf sf Rt pc ce se ls st σ := by
  obtain ⟨x, hx, h⟩ := iI_sp h
  intro base ρ D aC p l e s m args below meth c H locs lsJ hfl C hW hS hL hZ
  exact lv_iload C.1 C.2.1 hd (hL.at hx (fun z => by cases z)) (h base ρ D aC p l e s m args below meth c H locs lsJ hfl C hW hS hL hZ)
theorem GG.x_iload_n {i : Fin 4} (hd : decode q.2.1 pc = .ok (.iload_n i, 1)) (h : iI ls i fun x => X d q n0 cf sf Rt (pc + 1) ce se ls (.int x :: st) σ) : X d q n0 cf sf Rt pc ce se ls st σ := by
  obtain ⟨x, hx, h⟩ := iI_sp h
  intro base ρ D aC p l e s m args below meth c H locs lsJ hfl C hW hS hL hZ
  exact lv_iload_n C.1 C.2.1 hd rfl (hL.at hx (fun z => by cases z)) (h base ρ D aC p l e s m args below meth c H locs lsJ hfl C hW hS hL hZ)
theorem GG.x_lload {i : Nat} (hd : decode q.2.1 pc = .ok (.lload i, 2)) (h : iL ls i fun x => X d q n0 cf sf Rt (pc + 2) ce se ls (.long x :: st) σ) : X d q n0 cf sf Rt pc ce se ls st σ := by
  obtain ⟨x, hx, h⟩ := iL_sp h
  intro base ρ D aC p l e s m args below meth c H locs lsJ hfl C hW hS hL hZ
  exact lv_lload C.1 C.2.1 hd (hL.at hx (fun z => by cases z)) (h base ρ D aC p l e s m args below meth c H locs lsJ hfl C hW hS hL hZ)
theorem GG.x_lload_n {i : Fin 4} (hd : decode q.2.1 pc = .ok (.lload_n i, 1)) (h : iL ls i fun x => X d q n0 cf sf Rt (pc + 1) ce se ls (.long x :: st) σ) : X d q n0 cf sf Rt pc ce se ls st σ := by
  obtain ⟨x, hx, h⟩ := iL_sp h
  intro base ρ D aC p l e s m args below meth c H locs lsJ hfl C hW hS hL hZ
  exact lv_lload_n C.1 C.2.1 hd rfl (hL.at hx (fun z => by cases z)) (h base ρ D aC p l e s m args below meth c H locs lsJ hfl C hW hS hL hZ)
theorem GG.x_aload {i : Nat} (hd : decode q.2.1 pc = .ok (.aload i, 2)) (h : iR ls i fun x => X d q n0 cf sf Rt (pc + 2) ce se ls (.ref x :: st) σ) : X d q n0 cf sf Rt pc ce se ls st σ := by
  obtain ⟨x, hx, h⟩ := iR_sp h
  intro base ρ D aC p l e s m args below meth c H locs lsJ hfl C hW hS hL hZ
  exact lv_aload C.1 C.2.1 hd (hL.at hx (fun z => by cases z)) (h base ρ D aC p l e s m args below meth c H locs lsJ hfl C hW hS hL hZ)
theorem GG.x_aload_n {i : Fin 4} (hd : decode q.2.1 pc = .ok (.aload_n i, 1)) (h : iR ls i fun x => X d q n0 cf sf Rt (pc + 1) ce se ls (.ref x :: st) σ) : X d q n0 cf sf Rt pc ce se ls st σ := by
  obtain ⟨x, hx, h⟩ := iR_sp h
  intro base ρ D aC p l e s m args below meth c H locs lsJ hfl C hW hS hL hZ
  exact lv_aload_n C.1 C.2.1 hd rfl (hL.at hx (fun z => by cases z)) (h base ρ D aC p l e s m args below meth c H locs lsJ hfl C hW hS hL hZ)
theorem GG.x_istore {i : Nat} (hd : decode q.2.1 pc = .ok (.istore i, 2)) (h : pI st fun x r => i < q.2.2.1 ∧ X d q n0 cf sf Rt (pc + 2) ce se (set1 ls i (.int x)) (r) σ) : X d q n0 cf sf Rt pc ce se ls st σ := by
  obtain ⟨x, r, rfl, hi, h⟩ := pI_sp h
  intro base ρ D aC p l e s m args below meth c H locs lsJ hfl C hW hS hL hZ
  refine lv_istore C.1 C.2.1 hd hL.has hi rfl (fun lsJ' hl' => ?_)
  exact h base ρ D aC p l e s m args below meth c H locs lsJ' hfl C hW hS (Lo_set1 (v := .int x) hL hl') hZ
theorem GG.x_istore_n {i : Fin 4} (hd : decode q.2.1 pc = .ok (.istore_n i, 1)) (h : pI st fun x r => (i : Nat) < q.2.2.1 ∧ X d q n0 cf sf Rt (pc + 1) ce se (set1 ls (i : Nat) (.int x)) (r) σ) : X d q n0 cf sf Rt pc ce se ls st σ := by
  obtain ⟨x, r, rfl, hi, h⟩ := pI_sp h
  intro base ρ D aC p l e s m args below meth c H locs lsJ hfl C hW hS hL hZ
  refine lv_istore_n C.1 C.2.1 hd rfl hL.has hi rfl (fun lsJ' hl' => ?_)
  exact h base ρ D aC p l e s m args below meth c H locs lsJ' hfl C hW hS (Lo_set1 (v := .int x) hL hl') hZ
theorem GG.x_lstore {i : Nat} (hd : decode q.2.1 pc = .ok (.lstore i, 2)) (h : pL st fun x r => i + 1 < q.2.2.1 ∧ X d q n0 cf sf Rt (pc + 2) ce se (set2 ls i (.long x)) (r) σ) : X d q n0 cf sf Rt pc ce se ls st σ := by
  obtain ⟨x, r, rfl, hi, h⟩ := pL_sp h
  intro base ρ D aC p l e s m args below meth c H locs lsJ hfl C hW hS hL hZ
  refine lv_lstore C.1 C.2.1 hd hL.has hi rfl (fun lsJ' hl' => ?_)
  exact h base ρ D aC p l e s m args below meth c H locs lsJ' hfl C hW hS (Lo_set2 (v := .long x) hL hl') hZ
theorem GG.x_lstore_n {i : Fin 4} (hd : decode q.2.1 pc = .ok (.lstore_n i, 1)) (h : pL st fun x r => (i : Nat) + 1 < q.2.2.1 ∧ X d q n0 cf sf Rt (pc + 1) ce se (set2 ls (i : Nat) (.long x)) (r) σ) : X d q n0 cf sf Rt pc ce se ls st σ := by
  obtain ⟨x, r, rfl, hi, h⟩ := pL_sp h
  intro base ρ D aC p l e s m args below meth c H locs lsJ hfl C hW hS hL hZ
  refine lv_lstore_n C.1 C.2.1 hd rfl hL.has hi rfl (fun lsJ' hl' => ?_)
  exact h base ρ D aC p l e s m args below meth c H locs lsJ' hfl C hW hS (Lo_set2 (v := .long x) hL hl') hZ
theorem GG.x_astore {i : Nat} (hd : decode q.2.1 pc = .ok (.astore i, 2)) (h : pR st fun x r => i < q.2.2.1 ∧ X d q n0 cf sf Rt (pc + 2) ce se (set1 ls i (.ref x)) (r) σ) : X d q n0 cf sf Rt pc ce se ls st σ := by
  obtain ⟨x, r, rfl, hi, h⟩ := pR_sp h
  intro base ρ D aC p l e s m args below meth c H locs lsJ hfl C hW hS hL hZ
  refine lv_astore C.1 C.2.1 hd hL.has hi rfl (fun lsJ' hl' => ?_)
  exact h base ρ D aC p l e s m args below meth c H locs lsJ' hfl C hW hS (Lo_set1 (v := .ref x) hL hl') hZ
theorem GG.x_astore_n {i : Fin 4} (hd : decode q.2.1 pc = .ok (.astore_n i, 1)) (h : pR st fun x r => (i : Nat) < q.2.2.1 ∧ X d q n0 cf sf Rt (pc + 1) ce se (set1 ls (i : Nat) (.ref x)) (r) σ) : X d q n0 cf sf Rt pc ce se ls st σ := by
  obtain ⟨x, r, rfl, hi, h⟩ := pR_sp h
  intro base ρ D aC p l e s m args below meth c H locs lsJ hfl C hW hS hL hZ
  refine lv_astore_n C.1 C.2.1 hd rfl hL.has hi rfl (fun lsJ' hl' => ?_)
  exact h base ρ D aC p l e s m args below meth c H locs lsJ' hfl C hW hS (Lo_set1 (v := .ref x) hL hl') hZ
theorem GG.x_iinc {i : Nat} {n : Int} (hd : decode q.2.1 pc = .ok (.iinc i n, 3)) (h : iI ls i fun x => i < q.2.2.1 ∧ X d q n0 cf sf Rt (pc + 3) ce se (set1 ls i (.int (x + Int32.ofInt n))) (st) σ) : X d q n0 cf sf Rt pc ce se ls st σ := by
  obtain ⟨x, hx, hi, h⟩ := iI_sp h
  intro base ρ D aC p l e s m args below meth c H locs lsJ hfl C hW hS hL hZ
  obtain ⟨k, hk⟩ := prs_at (ρ := ρ) hx (fun z => by cases z)
  refine lv_iinc C.1 C.2.1 hd hL.has hk rfl hi rfl (fun lsJ' hl' => ?_)
  exact h base ρ D aC p l e s m args below meth c H locs lsJ' hfl C hW hS (Lo_set1 (v := .int (x + Int32.ofInt n)) hL hl') hZ
theorem GG.x_dup (hd : decode q.2.1 pc = .ok (.dup, 1)) (h : p1 st fun v r => X d q n0 cf sf Rt (pc + 1) ce se ls (v :: v :: r) σ) : X d q n0 cf sf Rt pc ce se ls st σ := by
  obtain ⟨v, r, rfl, hc, h⟩ := p1_sp h
  intro base ρ D aC p l e s m args below meth c H locs lsJ hfl C hW hS hL hZ
  exact lv_dup C.1 C.2.1 hd ((lf_cat ρ v).trans hc) (h base ρ D aC p l e s m args below meth c H locs lsJ hfl C hW hS hL hZ)
theorem GG.x_pop (hd : decode q.2.1 pc = .ok (.pop, 1)) (h : p1 st fun v r => X d q n0 cf sf Rt (pc + 1) ce se ls (r) σ) : X d q n0 cf sf Rt pc ce se ls st σ := by
  obtain ⟨v, r, rfl, hc, h⟩ := p1_sp h
  intro base ρ D aC p l e s m args below meth c H locs lsJ hfl C hW hS hL hZ
  exact lv_pop C.1 C.2.1 hd ((lf_cat ρ v).trans hc) (h base ρ D aC p l e s m args below meth c H locs lsJ hfl C hW hS hL hZ)
theorem GG.x_dup2 (hd : decode q.2.1 pc = .ok (.dup2, 1)) (h : p1 st fun v r => p1 r fun w r => X d q n0 cf sf Rt (pc + 1) ce se ls (v :: w :: v :: w :: r) σ) : X d q n0 cf sf Rt pc ce se ls st σ := by
  obtain ⟨v, r, rfl, hc, h1⟩ := p1_sp h
  obtain ⟨w, r, rfl, hc2, h⟩ := p1_sp h1
  intro base ρ D aC p l e s m args below meth c H locs lsJ hfl C hW hS hL hZ
  exact lv_dup2_11 C.1 C.2.1 hd ((lf_cat ρ v).trans hc) ((lf_cat ρ w).trans hc2) (h base ρ D aC p l e s m args below meth c H locs lsJ hfl C hW hS hL hZ)
theorem GG.x_if_eq {off : Int} {t : Nat} (ht : (pc : Int) + off = (t : Int)) (hd : decode q.2.1 pc = .ok (.ifCond .eq off, 3)) (h : pI st fun x r => (x = 0 → X d q n0 cf sf Rt t ce se ls r σ) ∧ (¬ (x = 0) → X d q n0 cf sf Rt (pc + 3) ce se ls (r) σ)) : X d q n0 cf sf Rt pc ce se ls st σ := by
  obtain ⟨x, r, rfl, h1, h2⟩ := pI_sp h
  intro base ρ D aC p l e s m args below meth c H locs lsJ hfl C hW hS hL hZ
  exact lv_if_eq C.1 C.2.1 hd ht (fun z => h1 z base ρ D aC p l e s m args below meth c H locs lsJ hfl C hW hS hL hZ) (fun z => h2 z base ρ D aC p l e s m args below meth c H locs lsJ hfl C hW hS hL hZ)
theorem GG.x_icmp_eq {off : Int} {t : Nat} (ht : (pc : Int) + off = (t : Int)) (hd : decode q.2.1 pc = .ok (.if_icmp .eq off, 3)) (h : pI st fun y r => pI r fun x r => (x = y → X d q n0 cf sf Rt t ce se ls r σ) ∧ (¬ (x = y) → X d q n0 cf sf Rt (pc + 3) ce se ls (r) σ)) : X d q n0 cf sf Rt pc ce se ls st σ := by
  obtain ⟨y, r, rfl, h1⟩ := pI_sp h
  obtain ⟨x, r, rfl, h1, h2⟩ := pI_sp h1
  intro base ρ D aC p l e s m args below meth c H locs lsJ hfl C hW hS hL hZ
  exact lv_icmp_eq C.1 C.2.1 hd ht (fun z => h1 z base ρ D aC p l e s m args below meth c H locs lsJ hfl C hW hS hL hZ) (fun z => h2 z base ρ D aC p l e s m args below meth c H locs lsJ hfl C hW hS hL hZ)
theorem GG.x_if_ne {off : Int} {t : Nat} (ht : (pc : Int) + off = (t : Int)) (hd : decode q.2.1 pc = .ok (.ifCond .ne off, 3)) (h : pI st fun x r => (¬ x = 0 → X d q n0 cf sf Rt t ce se ls r σ) ∧ (x = 0 → X d q n0 cf sf Rt (pc + 3) ce se ls (r) σ)) : X d q n0 cf sf Rt pc ce se ls st σ := by
  obtain ⟨x, r, rfl, h1, h2⟩ := pI_sp h
  intro base ρ D aC p l e s m args below meth c H locs lsJ hfl C hW hS hL hZ
  exact lv_if_ne C.1 C.2.1 hd ht (fun z => h1 z base ρ D aC p l e s m args below meth c H locs lsJ hfl C hW hS hL hZ) (fun z => h2 z base ρ D aC p l e s m args below meth c H locs lsJ hfl C hW hS hL hZ)
theorem GG.x_icmp_ne {off : Int} {t : Nat} (ht : (pc : Int) + off = (t : Int)) (hd : decode q.2.1 pc = .ok (.if_icmp .ne off, 3)) (h : pI st fun y r => pI r fun x r => (¬ x = y → X d q n0 cf sf Rt t ce se ls r σ) ∧ (x = y → X d q n0 cf sf Rt (pc + 3) ce se ls (r) σ)) : X d q n0 cf sf Rt pc ce se ls st σ := by
  obtain ⟨y, r, rfl, h1⟩ := pI_sp h
  obtain ⟨x, r, rfl, h1, h2⟩ := pI_sp h1
  intro base ρ D aC p l e s m args below meth c H locs lsJ hfl C hW hS hL hZ
  exact lv_icmp_ne C.1 C.2.1 hd ht (fun z => h1 z base ρ D aC p l e s m args below meth c H locs lsJ hfl C hW hS hL hZ) (fun z => h2 z base ρ D aC p l e s m args below meth c H locs lsJ hfl C hW hS hL hZ)
theorem GG.x_if_lt {off : Int} {t : Nat} (ht : (pc : Int) + off = (t : Int)) (hd : decode q.2.1 pc = .ok (.ifCond .lt off, 3)) (h : pI st fun x r => (x < 0 → X d q n0 cf sf Rt t ce se ls r σ) ∧ (¬ (x < 0) → X d q n0 cf sf Rt (pc + 3) ce se ls (r) σ)) : X d q n0 cf sf Rt pc ce se ls st σ := by
  obtain ⟨x, r, rfl, h1, h2⟩ := pI_sp h
  intro base ρ D aC p l e s m args below meth c H locs lsJ hfl C hW hS hL hZ
  exact lv_if_lt C.1 C.2.1 hd ht (fun z => h1 z base ρ D aC p l e s m args below meth c H locs lsJ hfl C hW hS hL hZ) (fun z => h2 z base ρ D aC p l e s m args below meth c H locs lsJ hfl C hW hS hL hZ)
theorem GG.x_icmp_lt {off : Int} {t : Nat} (ht : (pc : Int) + off = (t : Int)) (hd : decode q.2.1 pc = .ok (.if_icmp .lt off, 3)) (h : pI st fun y r => pI r fun x r => (x < y → X d q n0 cf sf Rt t ce se ls r σ) ∧ (¬ (x < y) → X d q n0 cf sf Rt (pc + 3) ce se ls (r) σ)) : X d q n0 cf sf Rt pc ce se ls st σ := by
  obtain ⟨y, r, rfl, h1⟩ := pI_sp h
  obtain ⟨x, r, rfl, h1, h2⟩ := pI_sp h1
  intro base ρ D aC p l e s m args below meth c H locs lsJ hfl C hW hS hL hZ
  exact lv_icmp_lt C.1 C.2.1 hd ht (fun z => h1 z base ρ D aC p l e s m args below meth c H locs lsJ hfl C hW hS hL hZ) (fun z => h2 z base ρ D aC p l e s m args below meth c H locs lsJ hfl C hW hS hL hZ)
theorem GG.x_if_ge {off : Int} {t : Nat} (ht : (pc : Int) + off = (t : Int)) (hd : decode q.2.1 pc = .ok (.ifCond .ge off, 3)) (h : pI st fun x r => (0 ≤ x → X d q n0 cf sf Rt t ce se ls r σ) ∧ (¬ (0 ≤ x) → X d q n0 cf sf Rt (pc + 3) ce se ls (r) σ)) : X d q n0 cf sf Rt pc ce se ls st σ := by
  obtain ⟨x, r, rfl, h1, h2⟩ := pI_sp h
  intro base ρ D aC p l e s m args below meth c H locs lsJ hfl C hW hS hL hZ
  exact lv_if_ge C.1 C.2.1 hd ht (fun z => h1 z base ρ D aC p l e s m args below meth c H locs lsJ hfl C hW hS hL hZ) (fun z => h2 z base ρ D aC p l e s m args below meth c H locs lsJ hfl C hW hS hL hZ)
theorem GG.x_icmp_ge {off : Int} {t : Nat} (ht : (pc : Int) + off = (t : Int)) (hd : decode q.2.1 pc = .ok (.if_icmp .ge off, 3)) (h : pI st fun y r => pI r fun x r => (y ≤ x → X d q n0 cf sf Rt t ce se ls r σ) ∧ (¬ (y ≤ x) → X d q n0 cf sf Rt (pc + 3) ce se ls (r) σ)) : X d q n0 cf sf Rt pc ce se ls st σ := by
  obtain ⟨y, r, rfl, h1⟩ := pI_sp h
  obtain ⟨x, r, rfl, h1, h2⟩ := pI_sp h1
  intro base ρ D aC p l e s m args below meth c H locs lsJ hfl C hW hS hL hZ
  exact lv_icmp_ge C.1 C.2.1 hd ht (fun z => h1 z base ρ D aC p l e s m args below meth c H locs lsJ hfl C hW hS hL hZ) (fun z => h2 z base ρ D aC p l e s m args below meth c H locs lsJ hfl C hW hS hL hZ)
theorem GG.x_if_gt {off : Int} {t : Nat} (ht : (pc : Int) + off = (t : Int)) (hd : decode q.2.1 pc = .ok (.ifCond .gt off, 3)) (h : pI st fun x r => (0 < x → X d q n0 cf sf Rt t ce se ls r σ) ∧ (¬ (0 < x) → X d q n0 cf sf Rt (pc + 3) ce se ls (r) σ)) : X d q n0 cf sf Rt pc ce se ls st σ := by
  obtain ⟨x, r, rfl, h1, h2⟩ := pI_sp h
  intro base ρ D aC p l e s m args below meth c H locs lsJ hfl C hW hS hL hZ
  exact lv_if_gt C.1 C.2.1 hd ht (fun z => h1 z base ρ D aC p l e s m args below meth c H locs lsJ hfl C hW hS hL hZ) (fun z => h2 z base ρ D aC p l e s m args below meth c H locs lsJ hfl C hW hS hL hZ)
theorem GG.x_icmp_gt {off : Int} {t : Nat} (ht : (pc : Int) + off = (t : Int)) (hd : decode q.2.1 pc = .ok (.if_icmp .gt off, 3)) (h : pI st fun y r => pI r fun x r => (y < x → X d q n0 cf sf Rt t ce se ls r σ) ∧ (¬ (y < x) → X d q n0 cf sf Rt (pc + 3) ce se ls (r) σ)) : X d q n0 cf sf Rt pc ce se ls st σ := by
  obtain ⟨y, r, rfl, h1⟩ := pI_sp h
  obtain ⟨x, r, rfl, h1, h2⟩ := pI_sp h1
  intro base ρ D aC p l e s m args below meth c H locs lsJ hfl C hW hS hL hZ
  exact lv_icmp_gt C.1 C.2.1 hd ht (fun z => h1 z base ρ D aC p l e s m args below meth c H locs lsJ hfl C hW hS hL hZ) (fun z => h2 z base ρ D aC p l e s m args below meth c H locs lsJ hfl C hW hS hL hZ)
theorem GG.x_if_le {off : Int} {t : Nat} (ht : (pc : Int) + off = (t : Int)) (hd : decode q.2.1 pc = .ok (.ifCond .le off, 3)) (h : pI st fun x r => (x ≤ 0 → X d q n0 cf sf Rt t ce se ls r σ) ∧ (¬ (x ≤ 0) → X d q n0 cf sf Rt (pc + 3) ce se ls (r) σ)) : X d q n0 cf sf Rt pc ce se ls st σ := by
  obtain ⟨x, r, rfl, h1, h2⟩ := pI_sp h
  intro base ρ D aC p l e s m args below meth c H locs lsJ hfl C hW hS hL hZ
  exact lv_if_le C.1 C.2.1 hd ht (fun z => h1 z base ρ D aC p l e s m args below meth c H locs lsJ hfl C hW hS hL hZ) (fun z => h2 z base ρ D aC p l e s m args below meth c H locs lsJ hfl C hW hS hL hZ)
theorem GG.x_icmp_le {off : Int} {t : Nat} (ht : (pc : Int) + off = (t : Int)) (hd : decode q.2.1 pc = .ok (.if_icmp .le off, 3)) (h : pI st fun y r => pI r fun x r => (x ≤ y → X d q n0 cf sf Rt t ce se ls r σ) ∧ (¬ (x ≤ y) → X d q n0 cf sf Rt (pc + 3) ce se ls (r) σ)) : X d q n0 cf sf Rt pc ce se ls st σ := by
  obtain ⟨y, r, rfl, h1⟩ := pI_sp h
  obtain ⟨x, r, rfl, h1, h2⟩ := pI_sp h1
  intro base ρ D aC p l e s m args below meth c H locs lsJ hfl C hW hS hL hZ
  exact lv_icmp_le C.1 C.2.1 hd ht (fun z => h1 z base ρ D aC p l e s m args below meth c H locs lsJ hfl C hW hS hL hZ) (fun z => h2 z base ρ D aC p l e s m args below meth c H locs lsJ hfl C hW hS hL hZ)
theorem GG.x_goto {off : Int} {t : Nat} (ht : (pc : Int) + off = (t : Int)) (hd : decode q.2.1 pc = .ok (.goto off, 3)) (h : X d q n0 cf sf Rt t ce se ls st σ) : X d q n0 cf sf Rt pc ce se ls st σ := by
  intro base ρ D aC p l e s m args below meth c H locs lsJ hfl C hW hS hL hZ
  exact lv_goto C.1 C.2.1 hd ht (h base ρ D aC p l e s m args below meth c H locs lsJ hfl C hW hS hL hZ)
theorem GG.x_get {n ci j N : Nat} {C : String} {T : u_T} (hc : vwCl[ci]? = some (C, T, N)) (hj : j < N) (hw : .fieldLink q.1.cls n (T j).1 (T j).2.1 (T j).2.2.1 ∈ WT) (hd : decode q.2.1 pc = .ok (.getfield n, 3))
    (h : pR st fun k r => (sh k = (0, ci) ∧ k < gN σ) ∧ X d q n0 cf sf Rt (pc + 3) ce se ls (fm σ k j (tyOf ci j) :: r) σ) : X d q n0 cf sf Rt pc ce se ls st σ := by
  obtain ⟨k, r, rfl, ⟨hs, hk⟩, h⟩ := pR_sp h
  intro base ρ D aC p l e s m args below meth c H locs lsJ hfl C9 hW hS hL hZ
  have hw9 := ws_at (ρ := ρ) (aC := aC) hk
  rw [cell_obj hs] at hw9
  have hz := h base ρ D aC p l e s m args below meth c H locs lsJ hfl C9 hW hS hL hZ
  rw [List.map_cons, lf_fm] at hz
  exact va_get C9.1 C9.2.1 C9.2.2.2.2.2.2.2.1 (cls_in hc) C9.2.2.2.2.1 C9.2.2.2.2.2.2.2.2.1 hW.1 k hw9 hc j hj (C9.2.2.2.2.2.2.2.1 _ hw) (fun _ z => z) (fs_at (by rw [nOf_eq hc]; exact hj)) hd hz
theorem GG.x_iaload (hd : decode q.2.1 pc = .ok (.iaload, 1)) (h : pI st fun i r => pR r fun k r => ((sh k).1 = 1 ∧ k < gN σ ∧ vp_in i (sh k).2) ∧ X d q n0 cf sf Rt (pc + 1) ce se ls (.int (gI σ k i.toNatClampNeg) :: r) σ) : X d q n0 cf sf Rt pc ce se ls st σ := by
  obtain ⟨i, r, rfl, h1⟩ := pI_sp h
  obtain ⟨k, r, rfl, ⟨hs, hk, hi⟩, h⟩ := pR_sp h1
  intro base ρ D aC p l e s m args below meth c H locs lsJ hfl C hW hS hL hZ
  have hw9 := ws_at (ρ := ρ) (aC := aC) hk
  rw [cell_arr (sh_eq hs)] at hw9
  exact va_iald C.1 C.2.1 C.2.2.2.2.2.2.2.2.1 hW.1 k 0 hw9 rfl hi hd (h base ρ D aC p l e s m args below meth c H locs lsJ hfl C hW hS hL hZ)
theorem GG.x_laload (hd : decode q.2.1 pc = .ok (.laload, 1)) (h : pI st fun i r => pR r fun k r => ((sh k).1 = 4 ∧ k < gN σ ∧ vp_in i (sh k).2) ∧ X d q n0 cf sf Rt (pc + 1) ce se ls (.long (gL σ k i.toNatClampNeg) :: r) σ) : X d q n0 cf sf Rt pc ce se ls st σ := by
  obtain ⟨i, r, rfl, h1⟩ := pI_sp h
  obtain ⟨k, r, rfl, ⟨hs, hk, hi⟩, h⟩ := pR_sp h1
  intro base ρ D aC p l e s m args below meth c H locs lsJ hfl C hW hS hL hZ
  have hw9 := ws_at (ρ := ρ) (aC := aC) hk
  rw [cell_arr (sh_eq hs)] at hw9
  exact va_lald C.1 C.2.1 C.2.2.2.2.2.2.2.2.1 hW.1 k 3 hw9 rfl hi hd (h base ρ D aC p l e s m args below meth c H locs lsJ hfl C hW hS hL hZ)
theorem GG.x_aaload (hd : decode q.2.1 pc = .ok (.aaload, 1)) (h : pI st fun i r => pR r fun k r => ((5 ≤ (sh k).1 ∧ (sh k).1 ≤ 9) ∧ k < gN σ ∧ vp_in i (sh k).2) ∧ X d q n0 cf sf Rt (pc + 1) ce se ls (rfV (gR σ k i.toNatClampNeg) :: r) σ) : X d q n0 cf sf Rt pc ce se ls st σ := by
  obtain ⟨i, r, rfl, h1⟩ := pI_sp h
  obtain ⟨k, r, rfl, ⟨hs, hk, hi⟩, h⟩ := pR_sp h1
  intro base ρ D aC p l e s m args below meth c H locs lsJ hfl C hW hS hL hZ
  have hw9 := ws_at (ρ := ρ) (aC := aC) hk
  have hz := h base ρ D aC p l e s m args below meth c H locs lsJ hfl C hW hS hL hZ
  rw [List.map_cons, lf_rfV] at hz
  obtain ⟨t, ht⟩ : ∃ t, (sh k).1 = t + 1 := ⟨(sh k).1 - 1, by omega⟩
  rw [cell_arr (sh_eq ht)] at hw9
  have hlt : i.toNatClampNeg < (sh k).2 := Nat.not_le.mp fun z => hi (Or.inr z)
  have h5 : t = 4 ∨ t = 5 ∨ t = 6 ∨ t = 7 ∨ t = 8 := by omega
  rcases h5 with rfl | rfl | rfl | rfl | rfl
  · exact W.aald (v := va_rf ((gR σ k i.toNatClampNeg).map ρ)) (ty := .object "PayOrders$Table") C.1 C.2.1 (hW.1 k _ hw9) ((C.2.2.2.2.2.2.2.2.1.2 4 _ rfl).1 (sh k).2 (fun j => va_rf ((gR σ k j).map ρ))) rfl (fun z => by cases z) (by show ¬ (i < 0 ∨ (arrV _ _ _).slots.size ≤ _); rw [arrV_size]; exact hi) (by show (arrV _ _ _).slots[_]? = _; rw [arrV_read _ _ hlt]) rfl rfl hd hz
  · exact W.aald (v := va_rf ((gR σ k i.toNatClampNeg).map ρ)) (ty := .object "PayOrders$Payer") C.1 C.2.1 (hW.1 k _ hw9) ((C.2.2.2.2.2.2.2.2.1.2 5 _ rfl).1 (sh k).2 (fun j => va_rf ((gR σ k j).map ρ))) rfl (fun z => by cases z) (by show ¬ (i < 0 ∨ (arrV _ _ _).slots.size ≤ _); rw [arrV_size]; exact hi) (by show (arrV _ _ _).slots[_]? = _; rw [arrV_read _ _ hlt]) rfl rfl hd hz
  · exact W.aald (v := va_rf ((gR σ k i.toNatClampNeg).map ρ)) (ty := .object "PayOrders$Order") C.1 C.2.1 (hW.1 k _ hw9) ((C.2.2.2.2.2.2.2.2.1.2 6 _ rfl).1 (sh k).2 (fun j => va_rf ((gR σ k j).map ρ))) rfl (fun z => by cases z) (by show ¬ (i < 0 ∨ (arrV _ _ _).slots.size ≤ _); rw [arrV_size]; exact hi) (by show (arrV _ _ _).slots[_]? = _; rw [arrV_read _ _ hlt]) rfl rfl hd hz
  · exact W.aald (v := va_rf ((gR σ k i.toNatClampNeg).map ρ)) (ty := .array .int) C.1 C.2.1 (hW.1 k _ hw9) ((C.2.2.2.2.2.2.2.2.1.2 7 _ rfl).1 (sh k).2 (fun j => va_rf ((gR σ k j).map ρ))) rfl (fun z => by cases z) (by show ¬ (i < 0 ∨ (arrV _ _ _).slots.size ≤ _); rw [arrV_size]; exact hi) (by show (arrV _ _ _).slots[_]? = _; rw [arrV_read _ _ hlt]) rfl rfl hd hz
  · exact W.aald (v := va_rf ((gR σ k i.toNatClampNeg).map ρ)) (ty := .array .long) C.1 C.2.1 (hW.1 k _ hw9) ((C.2.2.2.2.2.2.2.2.1.2 8 _ rfl).1 (sh k).2 (fun j => va_rf ((gR σ k j).map ρ))) rfl (fun z => by cases z) (by show ¬ (i < 0 ∨ (arrV _ _ _).slots.size ≤ _); rw [arrV_size]; exact hi) (by show (arrV _ _ _).slots[_]? = _; rw [arrV_read _ _ hlt]) rfl rfl hd hz
theorem GG.x_alen (hd : decode q.2.1 pc = .ok (.arraylength, 1)) (h : pR st fun k r => ((1 ≤ (sh k).1 ∧ (sh k).1 ≤ 9) ∧ k < gN σ) ∧ X d q n0 cf sf Rt (pc + 1) ce se ls (.int (Int32.ofNat (sh k).2) :: r) σ) : X d q n0 cf sf Rt pc ce se ls st σ := by
  obtain ⟨k, r, rfl, ⟨hs, hk⟩, h⟩ := pR_sp h
  intro base ρ D aC p l e s m args below meth c H locs lsJ hfl C hW hS hL hZ
  have hw9 := ws_at (ρ := ρ) (aC := aC) hk
  obtain ⟨t, ht⟩ : ∃ t, (sh k).1 = t + 1 := ⟨(sh k).1 - 1, by omega⟩
  rw [cell_arr (sh_eq ht)] at hw9
  have hT : (tysOf aC)[t]? = some (aC (t + 1), aty (t + 1)) := by
    unfold tysOf
    rw [List.getElem?_map, List.getElem?_range (by omega)]
    rfl
  exact va_alen C.1 C.2.1 C.2.2.2.2.2.2.2.2.1 hW.1 k t hw9 hT rfl hd (h base ρ D aC p l e s m args below meth c H locs lsJ hfl C hW hS hL hZ)
theorem GG.x_lastore (hd : decode q.2.1 pc = .ok (.lastore, 1)) (h : pL st fun x r => pI r fun i r => pR r fun k r => ((sh k).1 = 4 ∧ k < gN σ ∧ vp_in i (sh k).2) ∧ X d q n0 cf sf Rt (pc + 1) ce se ls r (sL σ k i.toNatClampNeg x)) : X d q n0 cf sf Rt pc ce se ls st σ := by
  obtain ⟨x, r, rfl, h1⟩ := pL_sp h
  obtain ⟨i, r, rfl, h2⟩ := pI_sp h1
  obtain ⟨k, r, rfl, ⟨hs, hk, hi⟩, h⟩ := pR_sp h2
  intro base ρ D aC p l e s m args below meth c H locs lsJ hfl C hW hS hL hZ
  have hw9 := ws_at (ρ := ρ) (aC := aC) hk
  rw [cell_arr (sh_eq hs)] at hw9
  have hρ := C.2.2.2.2.2.2.2.2.2.2.1
  refine va_last C.1 C.2.1 C.2.2.2.2.2.2.2.2.1 hW.1 (ws_D (aC := aC) hρ hW.2.1) hS k 3 hw9 rfl hi hd (fun H1 locs1 hP1 _ hS1 => ?_)
  refine h base ρ D aC p l e s m args below meth c H1 locs1 lsJ hfl C (Wd_next (σ := σ) hρ (Nat.le_trans C.2.2.2.2.2.2.2.2.2.1 hS1.1) hW rfl ?_ hP1) hS1 hL hZ
  refine ws_set rfl (fun a ha => cell_ext rfl (u2_row _ _ _ ha) rfl) ?_
  rw [cell_arr (sh_eq hs)]
  refine congrArg (fun z => Sum.inl (aC 4, (sh k).2, z)) ?_
  show Sum.inr (Sum.inl (u2 σ.2.1 k i.toNatClampNeg x k)) = _
  congr 2
  funext b
  by_cases hb : b = i.toNatClampNeg <;> simp [u2, vp_updL, hb, gI, gL]
theorem GG.x_invV {n ci na mc ms N : Nat} {q' : MI} {C : String} {T : u_T} (hc : vwCl[ci]? = some (C, T, N)) (hcl : q'.1.cls = C) (w1 : .methodLink q.1.cls n q'.1 ∈ WT) (w2 : .instanceMethod q'.1 ∈ WT) (w3 : .selects C q'.1 q'.1 ∈ WT) (w4 : .initialized C ∈ WT) (w5 : .code q'.1 q'.2.1 q'.2.2.1 q'.2.2.2 ∈ WT)
    (hds : q'.1.cls ≠ "java/lang/invoke/MethodHandle" ∧ q'.1.cls ≠ "java/lang/invoke/VarHandle" ∧ (parseMethodDescriptor q'.1.desc).map (fun d => d.parameters.length) = some na) (hml : q'.2.2.1 ≤ 21) (hd : decode q.2.1 pc = .ok (.invokevirtual n, 3))
    (h : 0 < d ∧ cl st (na + 1) fun as r => (rcv ci σ as ∧ cats r ≤ 8 ∧ ce + mc ≤ cf ∧ se + ms ≤ sf) ∧ Con (d - 1) q' mc ms as σ (fun v σ' => X d q n0 cf sf Rt (pc + 3) (ce + mc) (se + ms) ls (v.toList ++ r) σ')) : X d q n0 cf sf Rt pc ce se ls st σ := by
  obtain ⟨hd0, h⟩ := h
  obtain ⟨as, r, rfl, hln, ⟨hrc, hct, hm1, hm2⟩, h9⟩ := cl_sp h
  obtain ⟨k, as', rfl, hrc⟩ := rcv_sp hrc
  intro base ρ D aC p l e s m args below meth c H locs lsJ hfl C9 hW hS hL hZ
  intro T hT X9
  have hsz := x_sz X9 hZ hm1
  rw [hT] at hsz
  have hw9 := ws_at (ρ := ρ) (aC := aC) hrc.2
  rw [cell_obj hrc.1] at hw9
  have hts := C9.2.2.2.2.2.2.2.1
  have hK := C9.2.2.2.2.2.2.2.2.1
  have hG : GoodIn WT (wsV q.1.cls n C q'.1 (.code q'.1 q'.2.1 q'.2.2.1 q'.2.2.2 :: WT)) := by
    intro w hw
    refine WT_good w ?_
    unfold wsV at hw
    simp only [List.cons_append, List.nil_append, List.mem_cons] at hw
    rcases hw with rfl | rfl | rfl | rfl | rfl | hw
    · exact w1
    · exact w2
    · exact w3
    · exact w4
    · exact w5
    · exact hw
  refine x_after (σ := σ) (va_runV (As := as'.map (lf ρ)) (rest := r.map (lf ρ)) (b := ρ k) ⟨C9.1, C9.2.1, C9.2.2.1, C9.2.2.2.2.1, hts⟩ (h9 base ρ D aC l hfl.1) (cwV na hts hG rfl rfl rfl ⟨hcl, hds⟩ ⟨by show d - 1 + 1 ≤ Rt.R.frames; have := hfl.2.1.1; omega, by show 8 + (q'.2.2.1 + 11) + 40 * (d - 1) ≤ Rt.R.locals; have := hfl.2.1.2.1; omega⟩) ⟨Pf_blind, va_recv hK hW.1 hc hw9, fun U hU hWm => ⟨rfl, by rw [hU]; exact hW, by rw [hU]; exact hsz, va_K.moved hWm.alike hK, Ex_moved C9.2.2.2.2.2.2.2.2.2 hS hU hWm⟩⟩ rfl (by rw [List.length_map]; simp at hln; exact hln) hL.1 (by simp [lf]) (lv_room (by rw [cats_lf]; exact hct)) hd ⟨by have := hfl.2.1.2.2.1; omega, by have := hfl.2.1.2.2.2; omega⟩) hS (fun v σ' H1 locs1 hv hW1 hn1 hS1 => ?_) T hT X9
  rw [← toL_map, Nat.add_assoc, Nat.add_assoc]
  exact hv base ρ D aC p l e s m args below meth c H1 locs1 lsJ hfl C9 hW1 hS1 hL ⟨hZ.1, by have := hZ.2; omega⟩
theorem GG.x_invI {n na mc ms : Nat} {q' : MI} (hret : q'.2.2.2 = none) (hnm : q'.1.name = "<init>") (w1 : .methodLink q.1.cls n q'.1 ∈ WT ∨ .methodLinkNest q.1.cls n q'.1 "PayOrders" ∈ NT) (w2 : .instanceMethod q'.1 ∈ WT) (w4 : .initialized q'.1.cls ∈ WT) (w5 : .code q'.1 q'.2.1 q'.2.2.1 q'.2.2.2 ∈ WT)
    (hds : q'.1.cls ≠ "java/lang/invoke/MethodHandle" ∧ q'.1.cls ≠ "java/lang/invoke/VarHandle" ∧ (parseMethodDescriptor q'.1.desc).map (fun d => d.parameters.length) = some na) (hml : q'.2.2.1 ≤ 21) (hd : decode q.2.1 pc = .ok (.invokespecial n, 3))
    (h : 0 < d ∧ cl st (na + 1) fun as r => ((∃ k as', as = .ref k :: as') ∧ cats r ≤ 8 ∧ ce + mc ≤ cf ∧ se + ms ≤ sf) ∧ Con (d - 1) q' mc ms as σ (fun v σ' => X d q n0 cf sf Rt (pc + 3) (ce + mc) (se + ms) ls (v.toList ++ r) σ')) : X d q n0 cf sf Rt pc ce se ls st σ := by
  obtain ⟨hd0, h⟩ := h
  obtain ⟨as, r, rfl, hln, ⟨⟨k, as', rfl⟩, hct, hm1, hm2⟩, h9⟩ := cl_sp h
  intro base ρ D aC p l e s m args below meth c H locs lsJ hfl C9 hW hS hL hZ
  intro T hT X9
  have hsz := x_sz X9 hZ hm1
  rw [hT] at hsz
  have hts := C9.2.2.2.2.2.2.2.1
  have hK := C9.2.2.2.2.2.2.2.2.1
  have hG : GoodIn WT (.code q'.1 q'.2.1 q'.2.2.1 none :: WT) := by
    intro w hw
    refine WT_good w ?_
    rcases List.mem_cons.mp hw with rfl | hw
    · rw [← hret]; exact w5
    · exact hw
  have hM := h9 base ρ D aC l hfl.1
  rw [hret] at hM
  have kk : ∀ (v : Option Value) (σ' : St) (H1 : Heap) (locs1 : List Loc), X d q n0 cf sf Rt (pc + 3) (ce + mc) (se + ms) ls (v.toList ++ r) σ' → Wd base ρ D aC σ' H1 → gN σ + mc ≤ gN σ' → va_S (Ab base) s.heap H1 locs1 → W p l e Rt.R s m args below meth c H1 locs1 (Rt.c0 + ce + mc) (Rt.s0 + se + ms) (Rt.post base ρ D aC below args s meth c) (F0 m (pc + 3) lsJ ((v.map (lf ρ)).toList ++ r.map (lf ρ))) := by
    intro v σ' H1 locs1 hv hW1 hn1 hS1
    rw [← toL_map, Nat.add_assoc, Nat.add_assoc]
    exact hv base ρ D aC p l e s m args below meth c H1 locs1 lsJ hfl C9 hW1 hS1 hL ⟨hZ.1, by have := hZ.2; omega⟩
  have hR : (rmOf (d - 1) mc ms).frames + 1 ≤ Rt.R.frames ∧ 8 + (q'.2.2.1 + 11) + (rmOf (d - 1) mc ms).locals ≤ Rt.R.locals := ⟨by show d - 1 + 1 ≤ Rt.R.frames; have := hfl.2.1.1; omega, by show 8 + (q'.2.2.1 + 11) + 40 * (d - 1) ≤ Rt.R.locals; have := hfl.2.1.2.1; omega⟩
  have hPr : PreS s H (Pf base ρ D aC mc (.ref k :: as') σ) (.ref (ρ k) :: as'.map (lf ρ)) := ⟨Pf_blind, fun U hU hWm => ⟨rfl, by rw [hU]; exact hW, by rw [hU]; exact hsz, va_K.moved hWm.alike hK, Ex_moved C9.2.2.2.2.2.2.2.2.2 hS hU hWm⟩⟩
  rcases w1 with w1 | w1
  · exact x_after (σ := σ) (va_runI (As := as'.map (lf ρ)) (rest := r.map (lf ρ)) (b := ρ k) ⟨C9.1, C9.2.1, C9.2.2.1, C9.2.2.2.2.1, hts⟩ hM (cwI na hts hG rfl rfl rfl (hts _ w4) (hts _ w1) (hts _ w2) hnm hds hR) hPr rfl (by rw [List.length_map]; simp at hln; exact hln) hL.1 (by simp [lf]) (lv_room (by rw [cats_lf]; exact hct)) hd ⟨by have := hfl.2.1.2.2.1; omega, by have := hfl.2.1.2.2.2; omega⟩) hS kk T hT X9
  · exact x_after (σ := σ) (va_runIN (As := as'.map (lf ρ)) (rest := r.map (lf ρ)) (b := ρ k) ⟨C9.1, C9.2.1, C9.2.2.1, C9.2.2.2.2.1, hts⟩ hM ⟨va_cnB na hts hG rfl rfl rfl (C9.2.2.2.2.2.2.2.2.2.2.2.2.2.2.2.2.2 _ w1) (hts _ w4) hds hR, hnm, hts _ w2⟩ hPr rfl (by rw [List.length_map]; simp at hln; exact hln) hL.1 (by simp [lf]) (lv_room (by rw [cats_lf]; exact hct)) hd ⟨by have := hfl.2.1.2.2.1; omega, by have := hfl.2.1.2.2.2; omega⟩) hS kk T hT X9
set_option maxHeartbeats 200000 in
theorem GG.x_new {n ci N : Nat} {C : String} {T : u_T} (hc : vwCl[ci]? = some (C, T, N)) (w1 : .classLink q.1.cls n C ∈ WT) (w2 : .instantiable C N ∈ WT) (w3 : .initialized C ∈ WT) (hd : decode q.2.1 pc = .ok (.new n, 3))
    (h : (sh (gN σ) = (0, ci) ∧ gN σ < 107 ∧ ce + 1 ≤ cf ∧ se + N ≤ sf) ∧ X d q n0 cf sf Rt (pc + 3) (ce + 1) (se + N) ls (.ref (gN σ) :: st) (sN σ)) : X d q n0 cf sf Rt pc ce se ls st σ := by
  obtain ⟨⟨hs, hN, hm1, hm2⟩, h⟩ := h
  intro base ρ D aC p l e s m args below meth c H locs lsJ hfl C9 hW hS hL hZ
  intro T9 hT X9
  have hsz := sz_eq X9 hT hW hZ (by omega)
  have hts := C9.2.2.2.2.2.2.2.1
  have hρ := C9.2.2.2.2.2.2.2.2.2.2.1
  have hKn := C9.2.2.2.2.2.2.2.2.1.1 ci _ hc
  have hl : ci < 11 := (List.getElem?_eq_some_iff.mp hc).1
  refine W.newcK (R := Rt.R) (cells := Rt.c0 + ce) (slots := Rt.s0 + se) (g := F0 m pc lsJ (st.map (lf ρ))) C9.1 C9.2.1 C9.2.2.2.2.1 (hts _ w1) (hts _ w2) (hts _ w3) rfl hd (by have := hfl.2.1.2.2.1; omega) (by have := hfl.2.1.2.2.2; omega) hKn.2.1 (h := ρ (gN σ)) (by rw [hρ _ (by omega)]; exact hsz) (fun H1 kC hkC e1 z1 o1 => ?_) T9 hT X9
  have hz1 : ρ (gN σ) = H.size := by rw [hρ _ (by omega)]; exact hsz.symm
  rw [hz1] at z1 o1
  rw [Nat.add_assoc, Nat.add_assoc]
  refine h base ρ D aC p l e s m args below meth c H1 locs lsJ hfl C9 (Wd_push hW hsz hN z1 o1 ?_) ⟨Nat.le_trans hS.1 (by omega), fun x h1 h2 => (o1 x (Nat.lt_of_lt_of_le h1 hS.1)).trans (hS.2.1 x h1 h2), hS.2.2⟩ hL ⟨hZ.1, by have := hZ.2; show n0 + (ce + 1) ≤ gN σ + 1; omega⟩
  rw [cell_obj hs]
  refine ⟨_, hc, (u_born (tyOf ci) hts (cls_in hc) hKn hkC e1 (cls_ty hc)).to fun j hj => ?_⟩
  have hj : j < N := hj
  unfold vp_V
  have h1 := fs_at (ρ := ρ) (σ := sN σ) (k := gN σ) (ci := ci) (j := j) (by rw [nOf_eq hc]; exact hj)
  show _ = ((List.range (nOf ci)).map (fun j => fv ρ (sN σ) (gN σ) j (tyOf ci j))).getD j .null
  rw [List.getD_eq_getElem?_getD, h1, Option.getD_some, fv_f0 (by rw [sN_new.1]) (by rw [sN_new.2.1]) (by rw [sN_new.2.2])]
  exact (of_decide_eq_true (List.all_eq_true.mp (List.all_eq_true.mp cls_dflt ci (List.mem_range.mpr hl)) j (List.mem_range.mpr (by rw [nOf_eq hc]; exact hj)))).symm
set_option maxHeartbeats 200000 in
theorem GG.x_newa {t : Nat} {ty : ArrayType} (hty : newarray.typeOf ty = aty (t + 1)) (ht : t < 4) (w : .arrayClass (aty (t + 1)) ∈ WT) (hd : decode q.2.1 pc = .ok (.newarray ty, 2))
    (h : pI st fun x r => (sh (gN σ) = (t + 1, x.toNatClampNeg) ∧ ¬ x < 0 ∧ x.toNatClampNeg ≤ 1000 ∧ gN σ < 107 ∧ ce + 1 ≤ cf ∧ se + x.toNatClampNeg ≤ sf) ∧ X d q n0 cf sf Rt (pc + 2) (ce + 1) (se + x.toNatClampNeg) ls (.ref (gN σ) :: r) (sN σ)) : X d q n0 cf sf Rt pc ce se ls st σ := by
  obtain ⟨x, r, rfl, ⟨hs, hx0, hx1, hN, hm1, hm2⟩, h9⟩ := pI_sp h
  intro base ρ D aC p l e s m args below meth c H locs lsJ hfl C9 hW hS hL hZ
  intro T9 hT X9
  have hsz := sz_eq X9 hT hW hZ (by omega)
  have hts := C9.2.2.2.2.2.2.2.1
  have hK := C9.2.2.2.2.2.2.2.2.1
  have hρ := C9.2.2.2.2.2.2.2.2.2.2.1
  have hz1 : ρ (gN σ) = H.size := by rw [hρ _ (by omega)]; exact hsz.symm
  have hby : x.toNatClampNeg * componentBytes (newarray.typeOf ty) ≤ 536870912 := by
    have hb : componentBytes (newarray.typeOf ty) ≤ 8 := by cases ty <;> decide
    calc x.toNatClampNeg * componentBytes (newarray.typeOf ty) ≤ 1000 * 8 := Nat.mul_le_mul hx1 hb
      _ ≤ 536870912 := by decide
  refine va_newaK (R := Rt.R) (cells := Rt.c0 + ce) (slots := Rt.s0 + se) (g := F0 m pc lsJ ((Value.int x :: r).map (lf ρ))) C9.1 C9.2.1 (by rw [hty]; exact hts _ w) rfl hd rfl hx0 rfl hby (by have := hfl.2.1.2.2.1; omega) (by have := hfl.2.1.2.2.2; omega) hz1.symm (fun H1 cA e1 z1 o1 hAr hNm => ?_) T9 hT X9
  rw [hz1] at z1 o1
  rw [Nat.add_assoc, Nat.add_assoc]
  refine h9 base ρ D aC p l e s m args below meth c H1 locs lsJ hfl C9 (Wd_push hW hsz hN z1 o1 ?_) ⟨Nat.le_trans hS.1 (by omega), fun x h1 h2 => (o1 x (Nat.lt_of_lt_of_le h1 hS.1)).trans (hS.2.1 x h1 h2), hS.2.2⟩ hL ⟨hZ.1, by have := hZ.2; show n0 + (ce + 1) ≤ gN σ + 1; omega⟩
  rw [cell_arr hs]
  show H1[ρ (gN σ)]? = some (vp_cell _ _)
  rw [e1]
  have h4 : t = 0 ∨ t = 1 ∨ t = 2 ∨ t = 3 := by omega
  rw [hty] at hNm
  rcases h4 with rfl | rfl | rfl | rfl
  · have hcA : cA = aC 1 := Option.some.inj (hNm.symm.trans (hK.2 0 _ rfl).2)
    subst hcA
    rw [hty]
    show some (arrV (aC 1) _ _) = some (arrV (aC 1) _ (fun j => .int (gI (sN σ) (gN σ) j)))
    rw [sN_new.1]
    rfl
  · have hcA : cA = aC 2 := Option.some.inj (hNm.symm.trans (hK.2 1 _ rfl).2)
    subst hcA
    rw [hty]
    show some (arrV (aC 2) _ _) = some (arrV (aC 2) _ (fun j => .int (gI (sN σ) (gN σ) j)))
    rw [sN_new.1]
    rfl
  · have hcA : cA = aC 3 := Option.some.inj (hNm.symm.trans (hK.2 2 _ rfl).2)
    subst hcA
    rw [hty]
    show some (arrV (aC 3) _ _) = some (arrV (aC 3) _ (fun j => .int (gI (sN σ) (gN σ) j)))
    rw [sN_new.1]
    rfl
  · have hcA : cA = aC 4 := Option.some.inj (hNm.symm.trans (hK.2 3 _ rfl).2)
    subst hcA
    rw [hty]
    show some (arrV (aC 4) _ _) = some (arrV (aC 4) _ (fun j => .long (gL (sN σ) (gN σ) j)))
    rw [sN_new.2.1]
    rfl
theorem GG.x_objInit {n : Nat} (w1 : .methodLink q.1.cls n Lib.objectInit ∈ WT) (w2 : .instanceMethod Lib.objectInit ∈ WT) (w3 : .code Lib.objectInit ⟨#[0xb1]⟩ 1 none ∈ WT) (hd : decode q.2.1 pc = .ok (.invokespecial n, 3))
    (h : 0 < d ∧ pR st fun _ r => cats r ≤ 8 ∧ X d q n0 cf sf Rt (pc + 3) ce se ls r σ) : X d q n0 cf sf Rt pc ce se ls st σ := by
  obtain ⟨hd0, h⟩ := h
  obtain ⟨k, r, rfl, hct, h9⟩ := pR_sp h
  intro base ρ D aC p l e s m args below meth c H locs lsJ hfl C hW hS hL hZ
  have hts := C.2.2.2.2.2.2.2.1
  have h7 := lv_room (m := m) (pc := pc) (ls := lsJ) (rest := (Value.ref k :: r).map (lf ρ)) (st := r.map (lf ρ)) (by rw [cats_lf]; exact hct)
  exact W.objInit (R := Rt.R) C.1 C.2.1 C.2.2.2.2.1 (hts _ w1) (hts _ w2) (hts _ w3) rfl (hL.1.trans C.2.2.1.symm) rfl hd (by have := hfl.2.1.1; omega) (by show _ ≤ Rt.R.locals; have := hfl.2.1.2.1; have := hfl.2.1.1; omega) (h9 base ρ D aC p l e s m args below meth c H locs lsJ hfl C hW hS hL hZ)
theorem GG.x_sval {n : Nat} (w : .fieldLink q.1.cls n "java/lang/String" "value" "[B" ∈ WT) (hd : decode q.2.1 pc = .ok (.getfield n, 3)) (h : pR st fun k r => (1000 ≤ k ∧ k < 1019) ∧ X d q n0 cf sf Rt (pc + 3) ce se ls (.ref (k + 100) :: r) σ) : X d q n0 cf sf Rt pc ce se ls st σ := by
  obtain ⟨k, r, rfl, hk, h9⟩ := pR_sp h
  obtain ⟨i, rfl⟩ : ∃ i : Nat, k = 1000 + i := ⟨k - 1000, by omega⟩
  intro base ρ D aC p l e s m args below meth c H locs lsJ hfl C hW hS hL hZ
  have hi := (C.2.2.2.2.2.2.2.2.2.2.2.1.1 i (by omega)).2.2.1
  have hz := h9 base ρ D aC p l e s m args below meth c H locs lsJ hfl C hW hS hL hZ
  rw [show 1000 + i + 100 = 1100 + i by omega] at hz
  exact vk_getf C.1 C.2.1 hi hS C.2.2.2.2.1 (C.2.2.2.2.2.2.2.1 _ w) (fun _ z => z) hd hz
theorem GG.x_scod {n : Nat} (w : .fieldLink q.1.cls n "java/lang/String" "coder" "B" ∈ WT) (hd : decode q.2.1 pc = .ok (.getfield n, 3)) (h : pR st fun k r => (1000 ≤ k ∧ k < 1019) ∧ X d q n0 cf sf Rt (pc + 3) ce se ls (.int 0 :: r) σ) : X d q n0 cf sf Rt pc ce se ls st σ := by
  obtain ⟨k, r, rfl, hk, h9⟩ := pR_sp h
  obtain ⟨i, rfl⟩ : ∃ i : Nat, k = 1000 + i := ⟨k - 1000, by omega⟩
  intro base ρ D aC p l e s m args below meth c H locs lsJ hfl C hW hS hL hZ
  have hi := (C.2.2.2.2.2.2.2.2.2.2.2.1.1 i (by omega)).2.1
  exact vk_getf C.1 C.2.1 hi hS C.2.2.2.2.1 (C.2.2.2.2.2.2.2.1 _ w) (fun _ z => z) hd (h9 base ρ D aC p l e s m args below meth c H locs lsJ hfl C hW hS hL hZ)
theorem GG.x_invVS {n na : Nat} {q' : MI} (hcl : q'.1.cls = "java/lang/String") (w1 : .methodLink q.1.cls n q'.1 ∈ WT) (w2 : .instanceMethod q'.1 ∈ WT) (w3 : .selects "java/lang/String" q'.1 q'.1 ∈ WT) (w4 : .initialized "java/lang/String" ∈ WT) (w5 : .code q'.1 q'.2.1 q'.2.2.1 q'.2.2.2 ∈ WT)
    (hds : q'.1.cls ≠ "java/lang/invoke/MethodHandle" ∧ q'.1.cls ≠ "java/lang/invoke/VarHandle" ∧ (parseMethodDescriptor q'.1.desc).map (fun d => d.parameters.length) = some na) (hml : q'.2.2.1 ≤ 21) (hd : decode q.2.1 pc = .ok (.invokevirtual n, 3))
    (h : 0 < d ∧ cl st (na + 1) fun as r => (rcvS as ∧ cats r ≤ 8 ∧ ce ≤ cf ∧ se ≤ sf) ∧ Con (d - 1) q' 0 0 as σ (fun v σ' => X d q n0 cf sf Rt (pc + 3) ce se ls (v.toList ++ r) σ')) : X d q n0 cf sf Rt pc ce se ls st σ := by
  obtain ⟨hd0, h⟩ := h
  obtain ⟨as, r, rfl, hln, ⟨hrc, hct, hm1, hm2⟩, h9⟩ := cl_sp h
  obtain ⟨k, as', rfl, hrc⟩ := rcvS_sp hrc
  obtain ⟨i, rfl⟩ : ∃ i : Nat, k = 1000 + i := ⟨k - 1000, by omega⟩
  intro base ρ D aC p l e s m args below meth c H locs lsJ hfl C9 hW hS hL hZ
  intro T hT X9
  have hts := C9.2.2.2.2.2.2.2.1
  have hK := C9.2.2.2.2.2.2.2.2.1
  have hG : GoodIn WT (wsV q.1.cls n "java/lang/String" q'.1 (.code q'.1 q'.2.1 q'.2.2.1 q'.2.2.2 :: WT)) := by
    intro w hw
    refine WT_good w ?_
    unfold wsV at hw
    simp only [List.cons_append, List.nil_append, List.mem_cons] at hw
    rcases hw with rfl | rfl | rfl | rfl | rfl | hw
    · exact w1
    · exact w2
    · exact w3
    · exact w4
    · exact w5
    · exact hw
  refine x_after (σ := σ) (va_runV (As := as'.map (lf ρ)) (rest := r.map (lf ρ)) (b := ρ (1000 + i)) ⟨C9.1, C9.2.1, C9.2.2.1, C9.2.2.2.2.1, hts⟩ (h9 base ρ D aC l hfl.1) (cwV na hts hG rfl rfl rfl ⟨hcl, hds⟩ ⟨by show d - 1 + 1 ≤ Rt.R.frames; have := hfl.2.1.1; omega, by show 8 + (q'.2.2.1 + 11) + 40 * (d - 1) ≤ Rt.R.locals; have := hfl.2.1.2.1; omega⟩) ⟨Pf_blind, vk_recv (i := i) C9.2.2.2.2.2.2.2.2.2.2.2.1 (by omega) hS, fun U hU hWm => ⟨rfl, by rw [hU]; exact hW, fun z => absurd z (Nat.lt_irrefl 0), va_K.moved hWm.alike hK, Ex_moved C9.2.2.2.2.2.2.2.2.2 hS hU hWm⟩⟩ rfl (by rw [List.length_map]; simp at hln; exact hln) hL.1 (by simp [lf]) (lv_room (by rw [cats_lf]; exact hct)) hd ⟨by have := hfl.2.1.2.2.1; omega, by have := hfl.2.1.2.2.2; omega⟩) hS (fun v σ' H1 locs1 hv hW1 hn1 hS1 => ?_) T hT X9
  rw [← toL_map, Nat.add_assoc, Nat.add_assoc]
  exact hv base ρ D aC p l e s m args below meth c H1 locs1 lsJ hfl C9 hW1 hS1 hL ⟨hZ.1, by have := hZ.2; omega⟩
def GG.gOk : Instr → Bool
  | .iadd => true
  | .isub => true
  | .iand => true
  | .iconst _ => true
  | .bipush _ => true
  | .lcmp => true
  | .i2l => true
  | .iload _ => true
  | .iload_n _ => true
  | .aload _ => true
  | .aload_n _ => true
  | .istore _ => true
  | .istore_n _ => true
  | .astore _ => true
  | .astore_n _ => true
  | .iinc _ _ => true
  | .dup => true
  | .pop => true
  | .ifCond _ _ => true
  | .if_icmp _ _ => true
  | .goto _ => true
  | .getfield _ => true
  | .laload => true
  | .lastore => true
  | .invokevirtual _ => true
  | .invokespecial _ => true
  | .new _ => true
  | .newarray _ => true
  | .tableswitch _ _ _ _ => true
  | _ => false
theorem GG.X_step {hl : List Nat} {K : Nat → Nat → Nat → List Value → List Value → St → Prop} {e : Ent} (hck : chk hl q pc e = true) (hgo : gOk e.1 = true) (hK : ∀ pc' ce' se' ls' st' σ', K pc' ce' se' ls' st' σ' → X d q n0 cf sf Rt pc' ce' se' ls' st' σ') (h : stp d cf sf q.2.2.1 noR K e ce se ls st σ) : X d q n0 cf sf Rt pc ce se ls st σ := by
  obtain ⟨ins, nx, κ, a, w⟩ := e
  unfold chk at hck
  obtain ⟨hdn, hs⟩ := Bool.and_eq_true_iff.mp hck
  cases ins
  case iadd => 
    obtain ⟨hd, hn⟩ := of_decide_eq_true (show decide (decode q.2.1 pc = .ok (.iadd, ln (.iadd)) ∧ nx = pc + ln (.iadd)) = true from hdn)
    subst hn
    obtain ⟨y, r, rfl, h1⟩ := pI_sp h
    obtain ⟨x, r, rfl, h2⟩ := pI_sp h1
    exact x_iadd hd (hK _ _ _ _ _ _ h2)
  case isub => 
    obtain ⟨hd, hn⟩ := of_decide_eq_true (show decide (decode q.2.1 pc = .ok (.isub, ln (.isub)) ∧ nx = pc + ln (.isub)) = true from hdn)
    subst hn
    obtain ⟨y, r, rfl, h1⟩ := pI_sp h
    obtain ⟨x, r, rfl, h2⟩ := pI_sp h1
    exact x_isub hd (hK _ _ _ _ _ _ h2)
  case iand => 
    obtain ⟨hd, hn⟩ := of_decide_eq_true (show decide (decode q.2.1 pc = .ok (.iand, ln (.iand)) ∧ nx = pc + ln (.iand)) = true from hdn)
    subst hn
    obtain ⟨y, r, rfl, h1⟩ := pI_sp h
    obtain ⟨x, r, rfl, h2⟩ := pI_sp h1
    exact x_iand hd (hK _ _ _ _ _ _ h2)
  case iconst n => 
    obtain ⟨hd, hn⟩ := of_decide_eq_true (show decide (decode q.2.1 pc = .ok (.iconst n, ln (.iconst n)) ∧ nx = pc + ln (.iconst n)) = true from hdn)
    subst hn
    replace hs : (decide (Int32.ofInt n = kc w)) = true := hs
    have h3 := of_decide_eq_true hs
    refine x_iconst hd (hK _ _ _ _ _ _ ?_)
    rw [h3]
    exact h
  case bipush n => 
    obtain ⟨hd, hn⟩ := of_decide_eq_true (show decide (decode q.2.1 pc = .ok (.bipush n, ln (.bipush n)) ∧ nx = pc + ln (.bipush n)) = true from hdn)
    subst hn
    replace hs : (decide ((Int8.ofInt n).toInt32 = kc w)) = true := hs
    have h3 := of_decide_eq_true hs
    refine x_bipush hd (hK _ _ _ _ _ _ ?_)
    rw [h3]
    exact h
  case lcmp => 
    obtain ⟨hd, hn⟩ := of_decide_eq_true (show decide (decode q.2.1 pc = .ok (.lcmp, ln (.lcmp)) ∧ nx = pc + ln (.lcmp)) = true from hdn)
    subst hn
    obtain ⟨y, r, rfl, h1⟩ := pL_sp h
    obtain ⟨x, r, rfl, h2⟩ := pL_sp h1
    exact x_lcmp hd (hK _ _ _ _ _ _ h2)
  case i2l => 
    obtain ⟨hd, hn⟩ := of_decide_eq_true (show decide (decode q.2.1 pc = .ok (.i2l, ln (.i2l)) ∧ nx = pc + ln (.i2l)) = true from hdn)
    subst hn
    obtain ⟨x, r, rfl, h2⟩ := pI_sp h
    exact x_i2l hd (hK _ _ _ _ _ _ h2)
  case iload i => 
    obtain ⟨hd, hn⟩ := of_decide_eq_true (show decide (decode q.2.1 pc = .ok (.iload i, ln (.iload i)) ∧ nx = pc + ln (.iload i)) = true from hdn)
    subst hn
    replace hs : (decide (i = κ)) = true := hs
    have h3 := of_decide_eq_true hs
    subst h3
    obtain ⟨x, hx, h2⟩ := iI_sp h
    refine x_iload hd ?_
    unfold iI
    rw [hx]
    exact hK _ _ _ _ _ _ h2
  case iload_n i => 
    obtain ⟨hd, hn⟩ := of_decide_eq_true (show decide (decode q.2.1 pc = .ok (.iload_n i, ln (.iload_n i)) ∧ nx = pc + ln (.iload_n i)) = true from hdn)
    subst hn
    replace hs : (decide ((i : Nat) = κ)) = true := hs
    have h3 := of_decide_eq_true hs
    subst h3
    obtain ⟨x, hx, h2⟩ := iI_sp h
    refine x_iload_n hd ?_
    unfold iI
    rw [hx]
    exact hK _ _ _ _ _ _ h2
  case aload i => 
    obtain ⟨hd, hn⟩ := of_decide_eq_true (show decide (decode q.2.1 pc = .ok (.aload i, ln (.aload i)) ∧ nx = pc + ln (.aload i)) = true from hdn)
    subst hn
    replace hs : (decide (i = κ)) = true := hs
    have h3 := of_decide_eq_true hs
    subst h3
    obtain ⟨x, hx, h2⟩ := iR_sp h
    refine x_aload hd ?_
    unfold iR
    rw [hx]
    exact hK _ _ _ _ _ _ h2
  case aload_n i => 
    obtain ⟨hd, hn⟩ := of_decide_eq_true (show decide (decode q.2.1 pc = .ok (.aload_n i, ln (.aload_n i)) ∧ nx = pc + ln (.aload_n i)) = true from hdn)
    subst hn
    replace hs : (decide ((i : Nat) = κ)) = true := hs
    have h3 := of_decide_eq_true hs
    subst h3
    obtain ⟨x, hx, h2⟩ := iR_sp h
    refine x_aload_n hd ?_
    unfold iR
    rw [hx]
    exact hK _ _ _ _ _ _ h2
  case istore i => 
    obtain ⟨hd, hn⟩ := of_decide_eq_true (show decide (decode q.2.1 pc = .ok (.istore i, ln (.istore i)) ∧ nx = pc + ln (.istore i)) = true from hdn)
    subst hn
    replace hs : (decide (i = κ)) = true := hs
    have h3 := of_decide_eq_true hs
    subst h3
    obtain ⟨x, r, rfl, hi, h2⟩ := pI_sp h
    exact x_istore hd ⟨hi, hK _ _ _ _ _ _ h2⟩
  case istore_n i => 
    obtain ⟨hd, hn⟩ := of_decide_eq_true (show decide (decode q.2.1 pc = .ok (.istore_n i, ln (.istore_n i)) ∧ nx = pc + ln (.istore_n i)) = true from hdn)
    subst hn
    replace hs : (decide ((i : Nat) = κ)) = true := hs
    have h3 := of_decide_eq_true hs
    subst h3
    obtain ⟨x, r, rfl, hi, h2⟩ := pI_sp h
    exact x_istore_n hd ⟨hi, hK _ _ _ _ _ _ h2⟩
  case astore i => 
    obtain ⟨hd, hn⟩ := of_decide_eq_true (show decide (decode q.2.1 pc = .ok (.astore i, ln (.astore i)) ∧ nx = pc + ln (.astore i)) = true from hdn)
    subst hn
    replace hs : (decide (i = κ)) = true := hs
    have h3 := of_decide_eq_true hs
    subst h3
    obtain ⟨x, r, rfl, hi, h2⟩ := pR_sp h
    exact x_astore hd ⟨hi, hK _ _ _ _ _ _ h2⟩
  case astore_n i => 
    obtain ⟨hd, hn⟩ := of_decide_eq_true (show decide (decode q.2.1 pc = .ok (.astore_n i, ln (.astore_n i)) ∧ nx = pc + ln (.astore_n i)) = true from hdn)
    subst hn
    replace hs : (decide ((i : Nat) = κ)) = true := hs
    have h3 := of_decide_eq_true hs
    subst h3
    obtain ⟨x, r, rfl, hi, h2⟩ := pR_sp h
    exact x_astore_n hd ⟨hi, hK _ _ _ _ _ _ h2⟩
  case iinc i n => 
    obtain ⟨hd, hn⟩ := of_decide_eq_true (show decide (decode q.2.1 pc = .ok (.iinc i n, ln (.iinc i n)) ∧ nx = pc + ln (.iinc i n)) = true from hdn)
    subst hn
    replace hs : (decide (i = κ ∧ Int32.ofInt n = kc w)) = true := hs
    obtain ⟨h3, h4⟩ := of_decide_eq_true hs
    subst h3
    obtain ⟨x, hx, hi, h2⟩ := iI_sp h
    refine x_iinc hd ?_
    unfold iI
    rw [hx, h4]
    exact ⟨hi, hK _ _ _ _ _ _ h2⟩
  case dup => 
    obtain ⟨hd, hn⟩ := of_decide_eq_true (show decide (decode q.2.1 pc = .ok (.dup, ln (.dup)) ∧ nx = pc + ln (.dup)) = true from hdn)
    subst hn
    obtain ⟨v, r, rfl, hc, h2⟩ := p1_sp h
    exact x_dup hd ⟨hc, hK _ _ _ _ _ _ h2⟩
  case pop => 
    obtain ⟨hd, hn⟩ := of_decide_eq_true (show decide (decode q.2.1 pc = .ok (.pop, ln (.pop)) ∧ nx = pc + ln (.pop)) = true from hdn)
    subst hn
    obtain ⟨v, r, rfl, hc, h2⟩ := p1_sp h
    exact x_pop hd ⟨hc, hK _ _ _ _ _ _ h2⟩
  case ifCond c off => 
    obtain ⟨hd, hn⟩ := of_decide_eq_true (show decide (decode q.2.1 pc = .ok (.ifCond c off, ln (.ifCond c off)) ∧ nx = pc + ln (.ifCond c off)) = true from hdn)
    subst hn
    replace hs : (decide ((pc : Int) + off = (κ : Int))) = true := hs
    obtain ⟨x, r, rfl, h1, h2⟩ := pI_sp h
    have h3 := of_decide_eq_true hs
    cases c
    case eq => exact x_if_eq h3 hd ⟨fun z => hK _ _ _ _ _ _ (h1 z), fun z => hK _ _ _ _ _ _ (h2 z)⟩
    case ne => exact x_if_ne h3 hd ⟨fun z => hK _ _ _ _ _ _ (h1 z), fun z => hK _ _ _ _ _ _ (h2 (fun y => y z))⟩
    case lt => exact x_if_lt h3 hd ⟨fun z => hK _ _ _ _ _ _ (h1 z), fun z => hK _ _ _ _ _ _ (h2 z)⟩
    case ge => exact x_if_ge h3 hd ⟨fun z => hK _ _ _ _ _ _ (h1 z), fun z => hK _ _ _ _ _ _ (h2 z)⟩
    case gt => exact x_if_gt h3 hd ⟨fun z => hK _ _ _ _ _ _ (h1 z), fun z => hK _ _ _ _ _ _ (h2 z)⟩
    case le => exact x_if_le h3 hd ⟨fun z => hK _ _ _ _ _ _ (h1 z), fun z => hK _ _ _ _ _ _ (h2 z)⟩
  case if_icmp c off => 
    obtain ⟨hd, hn⟩ := of_decide_eq_true (show decide (decode q.2.1 pc = .ok (.if_icmp c off, ln (.if_icmp c off)) ∧ nx = pc + ln (.if_icmp c off)) = true from hdn)
    subst hn
    replace hs : (decide ((pc : Int) + off = (κ : Int))) = true := hs
    obtain ⟨y, r, rfl, h0⟩ := pI_sp h
    obtain ⟨x, r, rfl, h1, h2⟩ := pI_sp h0
    have h3 := of_decide_eq_true hs
    cases c
    case eq => exact x_icmp_eq h3 hd ⟨fun z => hK _ _ _ _ _ _ (h1 z), fun z => hK _ _ _ _ _ _ (h2 z)⟩
    case ne => exact x_icmp_ne h3 hd ⟨fun z => hK _ _ _ _ _ _ (h1 z), fun z => hK _ _ _ _ _ _ (h2 (fun y => y z))⟩
    case lt => exact x_icmp_lt h3 hd ⟨fun z => hK _ _ _ _ _ _ (h1 z), fun z => hK _ _ _ _ _ _ (h2 z)⟩
    case ge => exact x_icmp_ge h3 hd ⟨fun z => hK _ _ _ _ _ _ (h1 z), fun z => hK _ _ _ _ _ _ (h2 z)⟩
    case gt => exact x_icmp_gt h3 hd ⟨fun z => hK _ _ _ _ _ _ (h1 z), fun z => hK _ _ _ _ _ _ (h2 z)⟩
    case le => exact x_icmp_le h3 hd ⟨fun z => hK _ _ _ _ _ _ (h1 z), fun z => hK _ _ _ _ _ _ (h2 z)⟩
  case goto off => 
    obtain ⟨hd, hn⟩ := of_decide_eq_true (show decide (decode q.2.1 pc = .ok (.goto off, ln (.goto off)) ∧ nx = pc + ln (.goto off)) = true from hdn)
    subst hn
    replace hs : (decide ((pc : Int) + off = (κ : Int))) = true := hs
    exact x_goto (of_decide_eq_true hs) hd (hK _ _ _ _ _ _ h)
  case getfield n => 
    obtain ⟨hd, hn⟩ := of_decide_eq_true (show decide (decode q.2.1 pc = .ok (.getfield n, ln (.getfield n)) ∧ nx = pc + ln (.getfield n)) = true from hdn)
    subst hn
    replace hs : (sdGet hl q n κ a) = true := hs
    rcases sdGet_sp hs with ⟨j, tag, C, T, N, rfl, hc, hj, hw, htg, h9⟩ | ⟨rfl, hw⟩ | ⟨rfl, hw⟩
    · obtain ⟨k, r, rfl, hk, h2⟩ := pR_sp h
      refine x_get hc hj hw hd ⟨hk, hK _ _ _ _ _ _ ?_⟩
      rw [fm_tag htg h9]
      exact h2
    · obtain ⟨k, r, rfl, hk, h2⟩ := pR_sp h
      exact x_sval hw hd ⟨hk, hK _ _ _ _ _ _ h2⟩
    · obtain ⟨k, r, rfl, hk, h2⟩ := pR_sp h
      exact x_scod hw hd ⟨hk, hK _ _ _ _ _ _ h2⟩
  case laload => 
    obtain ⟨hd, hn⟩ := of_decide_eq_true (show decide (decode q.2.1 pc = .ok (.laload, ln (.laload)) ∧ nx = pc + ln (.laload)) = true from hdn)
    subst hn
    obtain ⟨i, r, rfl, h1⟩ := pI_sp h
    obtain ⟨k, r, rfl, hk, h2⟩ := pR_sp h1
    exact x_laload hd ⟨hk, hK _ _ _ _ _ _ h2⟩
  case lastore => 
    obtain ⟨hd, hn⟩ := of_decide_eq_true (show decide (decode q.2.1 pc = .ok (.lastore, ln (.lastore)) ∧ nx = pc + ln (.lastore)) = true from hdn)
    subst hn
    obtain ⟨x, r, rfl, h0⟩ := pL_sp h
    obtain ⟨i, r, rfl, h1⟩ := pI_sp h0
    obtain ⟨k, r, rfl, hk, h2⟩ := pR_sp h1
    exact x_lastore hd ⟨hk, hK _ _ _ _ _ _ h2⟩
  case invokevirtual n => 
    obtain ⟨hd, hn⟩ := of_decide_eq_true (show decide (decode q.2.1 pc = .ok (.invokevirtual n, ln (.invokevirtual n)) ∧ nx = pc + ln (.invokevirtual n)) = true from hdn)
    subst hn
    replace hs : (sdIv hl q n a w) = true := hs
    rcases sdIv_sp hs with ⟨na, ci, mc, ms, y, b, ml, rt, C, T, N, rfl, rfl, hc, h1, w1, w2, w3, w4, w5, hds, hml⟩ | ⟨na, y, b, ml, rt, rfl, rfl, h1, w1, w2, w3, w4, w5, hds, hml⟩
    · exact x_invV (q' := (y, b, ml, rt)) hc h1 w1 w2 w3 w4 w5 hds hml hd ⟨h.1, h.2.1, h.2.2.1, Con_mono h.2.2.2 fun v σ' z => hK _ _ _ _ _ _ z⟩
    · exact x_invVS (q' := (y, b, ml, rt)) h1 w1 w2 w3 w4 w5 hds hml hd ⟨h.1, h.2.1, h.2.2.1, Con_mono h.2.2.2 fun v σ' z => hK _ _ _ _ _ _ z⟩
  case invokespecial n => 
    obtain ⟨hd, hn⟩ := of_decide_eq_true (show decide (decode q.2.1 pc = .ok (.invokespecial n, ln (.invokespecial n)) ∧ nx = pc + ln (.invokespecial n)) = true from hdn)
    subst hn
    replace hs : (sdIp hl q n κ a w) = true := hs
    rcases sdIp_sp hs with ⟨na, mc, ms, y, b, ml, rt, rfl, rfl, rfl, h1, h2, w1, w2, w4, w5, hds, hml⟩ | ⟨rfl, w1, w2, w3⟩
    · exact x_invI (q' := (y, b, ml, rt)) h1 h2 w1 w2 w4 w5 hds hml hd ⟨h.1, h.2.1, ⟨isRefA_sp h.2.2.1.1, h.2.2.1.2⟩, Con_mono h.2.2.2 fun v σ' z => hK _ _ _ _ _ _ z⟩
    · obtain ⟨k, r, rfl, h1, h2⟩ := pR_sp h.2
      exact x_objInit w1 w2 w3 hd ⟨h.1, h1, hK _ _ _ _ _ _ h2⟩
  case new n => 
    obtain ⟨hd, hn⟩ := of_decide_eq_true (show decide (decode q.2.1 pc = .ok (.new n, ln (.new n)) ∧ nx = pc + ln (.new n)) = true from hdn)
    subst hn
    replace hs : (sdNew hl q n κ) = true := hs
    obtain ⟨C, T, N, hc, w1, w2, w3⟩ := sdNew_sp hs
    replace h : (sh (gN σ) = (0, κ) ∧ gN σ < 107 ∧ ce + 1 ≤ cf ∧ se + nOf κ ≤ sf) ∧ K (pc + 3) (ce + 1) (se + nOf κ) ls (.ref (gN σ) :: st) (sN σ) := h
    rw [nOf_eq hc] at h
    exact x_new hc w1 w2 w3 hd ⟨h.1, hK _ _ _ _ _ _ h.2⟩
  case newarray ty => 
    obtain ⟨hd, hn⟩ := of_decide_eq_true (show decide (decode q.2.1 pc = .ok (.newarray ty, ln (.newarray ty)) ∧ nx = pc + ln (.newarray ty)) = true from hdn)
    subst hn
    replace hs : (decide (newarray.typeOf ty = aty (κ + 1) ∧ κ < 4 ∧ mW hl (.arrayClass (aty (κ + 1))) = true)) = true := hs
    obtain ⟨h1, h2, h3⟩ := of_decide_eq_true hs
    obtain ⟨x, r, rfl, h4, h5⟩ := pI_sp h
    exact x_newa h1 h2 (mW_sp h3) hd ⟨h4, hK _ _ _ _ _ _ h5⟩
  case tableswitch dflt lo hi offs =>
    have hd := of_decide_eq_true (show decide (decode q.2.1 pc = .ok (.tableswitch dflt lo hi offs, nx - pc)) = true from hdn)
    obtain ⟨h1, h2, h3⟩ := of_decide_eq_true hs
    obtain ⟨x, r, rfl, h4, h5⟩ := pI_sp h
    intro base ρ D aC p l e s m args below meth c H locs lsJ hfl C hW hS hL hZ
    by_cases hx : x.toInt < lo ∨ hi < x.toInt
    · exact lv_tableOut C.1 C.2.1 hd hx h1 (hK _ _ _ _ _ _ (h5 hx) base ρ D aC p l e s m args below meth c H locs lsJ hfl C hW hS hL hZ)
    · have hl : offs.toList.length = a.length := by simpa using congrArg List.length h2
      have hi2 : (x.toInt - lo).toNat < a.length := by omega
      have h6 : a[(x.toInt - lo).toNat]? = some (a[(x.toInt - lo).toNat]) := List.getElem?_eq_getElem hi2
      have h7 := congrArg (fun l => l[(x.toInt - lo).toNat]?) h2
      simp only [List.getElem?_map, h6, Option.map_some] at h7
      cases ho : offs.toList[(x.toInt - lo).toNat]? with
      | none => rw [ho] at h7; cases h7
      | some off =>
        rw [ho, Option.map_some, Option.some.injEq] at h7
        have h8 : X d q n0 cf sf Rt (a[(x.toInt - lo).toNat]) ce se ls r σ := sw_sp (g := fun t => X d q n0 cf sf Rt t ce se ls r σ) (fun t z => hK _ _ _ _ _ _ z) a lo _ _ h4 h6 (by omega)
        exact lv_tableIn C.1 C.2.1 hd (fun z => hx (Or.inl z)) (fun z => hx (Or.inr z)) (by rw [← Array.getElem?_toList]; exact ho) h7 (h8 base ρ D aC p l e s m args below meth c H locs lsJ hfl C hW hS hL hZ)
  all_goals exact absurd (show (false = true) from hgo) Bool.false_ne_true
theorem GG.lk_ok {q : MI} {t : Tab} (h : okT q t = true) {pc : Nat} {e : Ent} (he : lk t pc = some e) : (∃ hl, chk hl q pc e = true) ∧ (pc, e) ∈ t.map (fun x => (x.1, x.2.2)) := by
  unfold okT at h
  unfold lk at he
  induction t with
  | nil => cases he
  | cons x t ih =>
    obtain ⟨p0, hl, e0⟩ := x
    rw [List.all_cons, Bool.and_eq_true] at h
    rw [List.lookup_cons] at he
    by_cases hp : (pc == p0) = true
    · rw [hp] at he
      cases he
      rw [eq_of_beq hp]
      exact ⟨⟨hl, h.1⟩, List.mem_cons_self⟩
    · have hp : (pc == p0) = false := by simpa using hp
      rw [hp] at he
      have := ih h.2 he
      exact ⟨this.1, List.mem_cons_of_mem _ this.2⟩
def GG.okG (t : Tab) : Bool := t.all fun x => gOk x.2.2.1
theorem GG.okG_at {t : Tab} (h : okG t = true) {pc : Nat} {e : Ent} (he : (pc, e) ∈ t.map (fun x => (x.1, x.2.2))) : gOk e.1 = true := by
  obtain ⟨x, hx, hx2⟩ := List.mem_map.mp he
  have := List.all_eq_true.mp h x hx
  cases hx2
  exact this
theorem GG.X_wp {d : Nat} {q : MI} {n0 cf sf : Nat} {Rt : GP} {t : Tab} (cuts : List Nat) (ht : okT q t = true) (hg : okG t = true) : ∀ (n : Nat) {pc ce se : Nat} {ls st : List Value} {σ : St}, wp d cf sf q.2.2.1 noR (X d q n0 cf sf Rt) (lk t) cuts n pc ce se ls st σ → X d q n0 cf sf Rt pc ce se ls st σ
  | 0, pc, ce, se, ls, st, σ, h => h
  | n + 1, pc, ce, se, ls, st, σ, h => by
    unfold wp at h
    split at h
    · exact h
    · rename_i e he
      obtain ⟨⟨hl, hck⟩, hm⟩ := lk_ok ht he
      refine X_step hck (okG_at hg hm) (fun pc' ce' se' ls' st' σ' z => ?_) h
      split at z
      · exact z
      · exact X_wp cuts ht hg n z
end GXS
