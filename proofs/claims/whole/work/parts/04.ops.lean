/-! ONE LEMMA AN INSTRUCTION: from the mini state behind it to the one ahead of it -/
section XOPS
variable {d : Nat} {q : MI} {n0 cf sf : Nat} {Rt : Option Value → St → Prop} {pc ce se : Nat} {ls st : List Value} {σ : St}
theorem x_iadd (hd : decode q.2.1 pc = .ok (.iadd, 1)) (h : pI st fun y r => pI r fun x r => X d q n0 cf sf Rt (pc + 1) ce se ls (.int (x + y) :: r) σ) : X d q n0 cf sf Rt pc ce se ls st σ := by
  obtain ⟨y, r, rfl, h1⟩ := pI_sp h
  obtain ⟨x, r, rfl, h⟩ := pI_sp h1
  intro base ρ D aC p l e s m args below meth c H locs lsJ hfl C hW hS hL hZ
  exact lv_iadd C.1 C.2.1 hd (h base ρ D aC p l e s m args below meth c H locs lsJ hfl C hW hS hL hZ)
theorem x_isub (hd : decode q.2.1 pc = .ok (.isub, 1)) (h : pI st fun y r => pI r fun x r => X d q n0 cf sf Rt (pc + 1) ce se ls (.int (x - y) :: r) σ) : X d q n0 cf sf Rt pc ce se ls st σ := by
  obtain ⟨y, r, rfl, h1⟩ := pI_sp h
  obtain ⟨x, r, rfl, h⟩ := pI_sp h1
  intro base ρ D aC p l e s m args below meth c H locs lsJ hfl C hW hS hL hZ
  exact lv_isub C.1 C.2.1 hd (h base ρ D aC p l e s m args below meth c H locs lsJ hfl C hW hS hL hZ)
theorem x_imul (hd : decode q.2.1 pc = .ok (.imul, 1)) (h : pI st fun y r => pI r fun x r => X d q n0 cf sf Rt (pc + 1) ce se ls (.int (x * y) :: r) σ) : X d q n0 cf sf Rt pc ce se ls st σ := by
  obtain ⟨y, r, rfl, h1⟩ := pI_sp h
  obtain ⟨x, r, rfl, h⟩ := pI_sp h1
  intro base ρ D aC p l e s m args below meth c H locs lsJ hfl C hW hS hL hZ
  exact lv_imul C.1 C.2.1 hd (h base ρ D aC p l e s m args below meth c H locs lsJ hfl C hW hS hL hZ)
theorem x_iand (hd : decode q.2.1 pc = .ok (.iand, 1)) (h : pI st fun y r => pI r fun x r => X d q n0 cf sf Rt (pc + 1) ce se ls (.int (x &&& y) :: r) σ) : X d q n0 cf sf Rt pc ce se ls st σ := by
  obtain ⟨y, r, rfl, h1⟩ := pI_sp h
  obtain ⟨x, r, rfl, h⟩ := pI_sp h1
  intro base ρ D aC p l e s m args below meth c H locs lsJ hfl C hW hS hL hZ
  exact lv_iand C.1 C.2.1 hd (h base ρ D aC p l e s m args below meth c H locs lsJ hfl C hW hS hL hZ)
theorem x_ior (hd : decode q.2.1 pc = .ok (.ior, 1)) (h : pI st fun y r => pI r fun x r => X d q n0 cf sf Rt (pc + 1) ce se ls (.int (x ||| y) :: r) σ) : X d q n0 cf sf Rt pc ce se ls st σ := by
  obtain ⟨y, r, rfl, h1⟩ := pI_sp h
  obtain ⟨x, r, rfl, h⟩ := pI_sp h1
  intro base ρ D aC p l e s m args below meth c H locs lsJ hfl C hW hS hL hZ
  exact lv_ior C.1 C.2.1 hd (h base ρ D aC p l e s m args below meth c H locs lsJ hfl C hW hS hL hZ)
theorem x_ishl (hd : decode q.2.1 pc = .ok (.ishl, 1)) (h : pI st fun y r => pI r fun x r => X d q n0 cf sf Rt (pc + 1) ce se ls (.int (x <<< (y &&& 31)) :: r) σ) : X d q n0 cf sf Rt pc ce se ls st σ := by
  obtain ⟨y, r, rfl, h1⟩ := pI_sp h
  obtain ⟨x, r, rfl, h⟩ := pI_sp h1
  intro base ρ D aC p l e s m args below meth c H locs lsJ hfl C hW hS hL hZ
  exact lv_ishl C.1 C.2.1 hd (h base ρ D aC p l e s m args below meth c H locs lsJ hfl C hW hS hL hZ)
theorem x_ishr (hd : decode q.2.1 pc = .ok (.ishr, 1)) (h : pI st fun y r => pI r fun x r => X d q n0 cf sf Rt (pc + 1) ce se ls (.int (x >>> (y &&& 31)) :: r) σ) : X d q n0 cf sf Rt pc ce se ls st σ := by
  obtain ⟨y, r, rfl, h1⟩ := pI_sp h
  obtain ⟨x, r, rfl, h⟩ := pI_sp h1
  intro base ρ D aC p l e s m args below meth c H locs lsJ hfl C hW hS hL hZ
  exact lv_ishr C.1 C.2.1 hd (h base ρ D aC p l e s m args below meth c H locs lsJ hfl C hW hS hL hZ)
theorem x_idiv (hd : decode q.2.1 pc = .ok (.idiv, 1)) (h : pI st fun y r => pI r fun x r => ¬ y = 0 ∧ X d q n0 cf sf Rt (pc + 1) ce se ls (.int (x / y) :: r) σ) : X d q n0 cf sf Rt pc ce se ls st σ := by
  obtain ⟨y, r, rfl, h1⟩ := pI_sp h
  obtain ⟨x, r, rfl, hn, h⟩ := pI_sp h1
  intro base ρ D aC p l e s m args below meth c H locs lsJ hfl C hW hS hL hZ
  exact lv_idiv C.1 C.2.1 hd hn (h base ρ D aC p l e s m args below meth c H locs lsJ hfl C hW hS hL hZ)
theorem x_irem (hd : decode q.2.1 pc = .ok (.irem, 1)) (h : pI st fun y r => pI r fun x r => ¬ y = 0 ∧ X d q n0 cf sf Rt (pc + 1) ce se ls (.int (x - x / y * y) :: r) σ) : X d q n0 cf sf Rt pc ce se ls st σ := by
  obtain ⟨y, r, rfl, h1⟩ := pI_sp h
  obtain ⟨x, r, rfl, hn, h⟩ := pI_sp h1
  intro base ρ D aC p l e s m args below meth c H locs lsJ hfl C hW hS hL hZ
  exact lv_irem C.1 C.2.1 hd hn (h base ρ D aC p l e s m args below meth c H locs lsJ hfl C hW hS hL hZ)
theorem x_ladd (hd : decode q.2.1 pc = .ok (.ladd, 1)) (h : pL st fun y r => pL r fun x r => X d q n0 cf sf Rt (pc + 1) ce se ls (.long (x + y) :: r) σ) : X d q n0 cf sf Rt pc ce se ls st σ := by
  obtain ⟨y, r, rfl, h1⟩ := pL_sp h
  obtain ⟨x, r, rfl, h⟩ := pL_sp h1
  intro base ρ D aC p l e s m args below meth c H locs lsJ hfl C hW hS hL hZ
  exact lv_ladd C.1 C.2.1 hd (h base ρ D aC p l e s m args below meth c H locs lsJ hfl C hW hS hL hZ)
theorem x_lsub (hd : decode q.2.1 pc = .ok (.lsub, 1)) (h : pL st fun y r => pL r fun x r => X d q n0 cf sf Rt (pc + 1) ce se ls (.long (x - y) :: r) σ) : X d q n0 cf sf Rt pc ce se ls st σ := by
  obtain ⟨y, r, rfl, h1⟩ := pL_sp h
  obtain ⟨x, r, rfl, h⟩ := pL_sp h1
  intro base ρ D aC p l e s m args below meth c H locs lsJ hfl C hW hS hL hZ
  exact lv_lsub C.1 C.2.1 hd (h base ρ D aC p l e s m args below meth c H locs lsJ hfl C hW hS hL hZ)
theorem x_lmul (hd : decode q.2.1 pc = .ok (.lmul, 1)) (h : pL st fun y r => pL r fun x r => X d q n0 cf sf Rt (pc + 1) ce se ls (.long (x * y) :: r) σ) : X d q n0 cf sf Rt pc ce se ls st σ := by
  obtain ⟨y, r, rfl, h1⟩ := pL_sp h
  obtain ⟨x, r, rfl, h⟩ := pL_sp h1
  intro base ρ D aC p l e s m args below meth c H locs lsJ hfl C hW hS hL hZ
  exact lv_lmul C.1 C.2.1 hd (h base ρ D aC p l e s m args below meth c H locs lsJ hfl C hW hS hL hZ)
theorem x_lor (hd : decode q.2.1 pc = .ok (.lor, 1)) (h : pL st fun y r => pL r fun x r => X d q n0 cf sf Rt (pc + 1) ce se ls (.long (x ||| y) :: r) σ) : X d q n0 cf sf Rt pc ce se ls st σ := by
  obtain ⟨y, r, rfl, h1⟩ := pL_sp h
  obtain ⟨x, r, rfl, h⟩ := pL_sp h1
  intro base ρ D aC p l e s m args below meth c H locs lsJ hfl C hW hS hL hZ
  exact lv_lor C.1 C.2.1 hd (h base ρ D aC p l e s m args below meth c H locs lsJ hfl C hW hS hL hZ)
theorem x_land (hd : decode q.2.1 pc = .ok (.land, 1)) (h : pL st fun y r => pL r fun x r => X d q n0 cf sf Rt (pc + 1) ce se ls (.long (x &&& y) :: r) σ) : X d q n0 cf sf Rt pc ce se ls st σ := by
  obtain ⟨y, r, rfl, h1⟩ := pL_sp h
  obtain ⟨x, r, rfl, h⟩ := pL_sp h1
  intro base ρ D aC p l e s m args below meth c H locs lsJ hfl C hW hS hL hZ
  exact lv_land C.1 C.2.1 hd (h base ρ D aC p l e s m args below meth c H locs lsJ hfl C hW hS hL hZ)
theorem x_ldiv (hd : decode q.2.1 pc = .ok (.ldiv, 1)) (h : pL st fun y r => pL r fun x r => ¬ y = 0 ∧ X d q n0 cf sf Rt (pc + 1) ce se ls (.long (x / y) :: r) σ) : X d q n0 cf sf Rt pc ce se ls st σ := by
  obtain ⟨y, r, rfl, h1⟩ := pL_sp h
  obtain ⟨x, r, rfl, hn, h⟩ := pL_sp h1
  intro base ρ D aC p l e s m args below meth c H locs lsJ hfl C hW hS hL hZ
  exact lv_ldiv C.1 C.2.1 hd hn (h base ρ D aC p l e s m args below meth c H locs lsJ hfl C hW hS hL hZ)
theorem x_lshl (hd : decode q.2.1 pc = .ok (.lshl, 1)) (h : pI st fun y r => pL r fun x r => X d q n0 cf sf Rt (pc + 1) ce se ls (.long (x <<< (y.toInt64 &&& 63)) :: r) σ) : X d q n0 cf sf Rt pc ce se ls st σ := by
  obtain ⟨y, r, rfl, h1⟩ := pI_sp h
  obtain ⟨x, r, rfl, h⟩ := pL_sp h1
  intro base ρ D aC p l e s m args below meth c H locs lsJ hfl C hW hS hL hZ
  exact lv_lshl C.1 C.2.1 hd rfl (h base ρ D aC p l e s m args below meth c H locs lsJ hfl C hW hS hL hZ)
theorem x_lcmp (hd : decode q.2.1 pc = .ok (.lcmp, 1)) (h : pL st fun y r => pL r fun x r => X d q n0 cf sf Rt (pc + 1) ce se ls (.int (lg_cmp x y) :: r) σ) : X d q n0 cf sf Rt pc ce se ls st σ := by
  obtain ⟨y, r, rfl, h1⟩ := pL_sp h
  obtain ⟨x, r, rfl, h⟩ := pL_sp h1
  intro base ρ D aC p l e s m args below meth c H locs lsJ hfl C hW hS hL hZ
  exact W.lcmp C.1 C.2.1 hd (h base ρ D aC p l e s m args below meth c H locs lsJ hfl C hW hS hL hZ)
theorem x_i2l (hd : decode q.2.1 pc = .ok (.i2l, 1)) (h : pI st fun x r => X d q n0 cf sf Rt (pc + 1) ce se ls (.long x.toInt64 :: r) σ) : X d q n0 cf sf Rt pc ce se ls st σ := by
  obtain ⟨x, r, rfl, h⟩ := pI_sp h
  intro base ρ D aC p l e s m args below meth c H locs lsJ hfl C hW hS hL hZ
  exact lv_i2l C.1 C.2.1 hd rfl (h base ρ D aC p l e s m args below meth c H locs lsJ hfl C hW hS hL hZ)
theorem x_i2b (hd : decode q.2.1 pc = .ok (.i2b, 1)) (h : pI st fun x r => X d q n0 cf sf Rt (pc + 1) ce se ls (.int x.toInt8.toInt32 :: r) σ) : X d q n0 cf sf Rt pc ce se ls st σ := by
  obtain ⟨x, r, rfl, h⟩ := pI_sp h
  intro base ρ D aC p l e s m args below meth c H locs lsJ hfl C hW hS hL hZ
  exact lv_i2b C.1 C.2.1 hd rfl (h base ρ D aC p l e s m args below meth c H locs lsJ hfl C hW hS hL hZ)
theorem x_l2i (hd : decode q.2.1 pc = .ok (.l2i, 1)) (h : pL st fun x r => X d q n0 cf sf Rt (pc + 1) ce se ls (.int x.toInt32 :: r) σ) : X d q n0 cf sf Rt pc ce se ls st σ := by
  obtain ⟨x, r, rfl, h⟩ := pL_sp h
  intro base ρ D aC p l e s m args below meth c H locs lsJ hfl C hW hS hL hZ
  exact lv_l2i C.1 C.2.1 hd rfl (h base ρ D aC p l e s m args below meth c H locs lsJ hfl C hW hS hL hZ)
theorem x_iconst {n : Int} (hd : decode q.2.1 pc = .ok (.iconst n, 1)) (h : X d q n0 cf sf Rt (pc + 1) ce se ls (.int (Int32.ofInt n) :: st) σ) : X d q n0 cf sf Rt pc ce se ls st σ := by
  intro base ρ D aC p l e s m args below meth c H locs lsJ hfl C hW hS hL hZ
  exact lv_iconst C.1 C.2.1 hd rfl (h base ρ D aC p l e s m args below meth c H locs lsJ hfl C hW hS hL hZ)
theorem x_bipush {n : Int} (hd : decode q.2.1 pc = .ok (.bipush n, 2)) (h : X d q n0 cf sf Rt (pc + 2) ce se ls (.int (Int8.ofInt n).toInt32 :: st) σ) : X d q n0 cf sf Rt pc ce se ls st σ := by
  intro base ρ D aC p l e s m args below meth c H locs lsJ hfl C hW hS hL hZ
  exact lv_bipush C.1 C.2.1 hd rfl (h base ρ D aC p l e s m args below meth c H locs lsJ hfl C hW hS hL hZ)
theorem x_sipush {n : Int} (hd : decode q.2.1 pc = .ok (.sipush n, 3)) (h : X d q n0 cf sf Rt (pc + 3) ce se ls (.int (Int16.ofInt n).toInt32 :: st) σ) : X d q n0 cf sf Rt pc ce se ls st σ := by
  intro base ρ D aC p l e s m args below meth c H locs lsJ hfl C hW hS hL hZ
  exact lv_sipush C.1 C.2.1 hd rfl (h base ρ D aC p l e s m args below meth c H locs lsJ hfl C hW hS hL hZ)
theorem x_lconst {n : Fin 2} (hd : decode q.2.1 pc = .ok (.lconst n, 1)) (h : X d q n0 cf sf Rt (pc + 1) ce se ls (.long (Int64.ofNat (n : Nat)) :: st) σ) : X d q n0 cf sf Rt pc ce se ls st σ := by
  intro base ρ D aC p l e s m args below meth c H locs lsJ hfl C hW hS hL hZ
  exact lv_lconst C.1 C.2.1 hd rfl (h base ρ D aC p l e s m args below meth c H locs lsJ hfl C hW hS hL hZ)
theorem x_ldc {n : Nat} {v : Int32} (hw : .constant q.1.cls n v ∈ WT) (hd : decode q.2.1 pc = .ok (.ldc n, 2)) (h : X d q n0 cf sf Rt (pc + 2) ce se ls (.int v :: st) σ) : X d q n0 cf sf Rt pc ce se ls st σ := by
  intro base ρ D aC p l e s m args below meth c H locs lsJ hfl C hW hS hL hZ
  exact lv_ldc C.1 C.2.1 C.2.2.2.2.1 (C.2.2.2.2.2.2.2.1 _ hw) hd (h base ρ D aC p l e s m args below meth c H locs lsJ hfl C hW hS hL hZ)
theorem x_ldcw {n : Nat} {v : Int32} (hw : .constant q.1.cls n v ∈ WT) (hd : decode q.2.1 pc = .ok (.ldc_w n, 3)) (h : X d q n0 cf sf Rt (pc + 3) ce se ls (.int v :: st) σ) : X d q n0 cf sf Rt pc ce se ls st σ := by
  intro base ρ D aC p l e s m args below meth c H locs lsJ hfl C hW hS hL hZ
  exact lv_ldcw C.1 C.2.1 C.2.2.2.2.1 (C.2.2.2.2.2.2.2.1 _ hw) hd (h base ρ D aC p l e s m args below meth c H locs lsJ hfl C hW hS hL hZ)
theorem x_ldc2 {n : Nat} {v : Int64} (hw : .constantLong q.1.cls n v ∈ WT) (hd : decode q.2.1 pc = .ok (.ldc2_w n, 3)) (h : X d q n0 cf sf Rt (pc + 3) ce se ls (.long v :: st) σ) : X d q n0 cf sf Rt pc ce se ls st σ := by
  intro base ρ D aC p l e s m args below meth c H locs lsJ hfl C hW hS hL hZ
  exact lv_ldc2 C.1 C.2.1 C.2.2.2.2.1 (C.2.2.2.2.2.2.2.1 _ hw) hd (h base ρ D aC p l e s m args below meth c H locs lsJ hfl C hW hS hL hZ)
theorem x_ldcS {n i : Nat} {tx : String} (hi : strT[i]? = some (q.1.cls, n, tx)) (hd : decode q.2.1 pc = .ok (.ldc n, 2)) (h : X d q n0 cf sf Rt (pc + 2) ce se ls (.ref (1000 + i) :: st) σ) : X d q n0 cf sf Rt pc ce se ls st σ := by
  intro base ρ D aC p l e s m args below meth c H locs lsJ hfl C hW hS hL hZ
  exact va_ldcS C.1 C.2.1 C.2.2.2.2.1 (C.2.2.2.2.2.2.2.2.2.2.2.2.1 i _ hi) hd (h base ρ D aC p l e s m args below meth c H locs lsJ hfl C hW hS hL hZ)
theorem x_iload {i : Nat} (hd : decode q.2.1 pc = .ok (.iload i, 2)) (h : iI ls i fun x => X d q n0 cf sf Rt (pc + 2) ce se ls (.int x :: st) σ) : X d q n0 cf sf Rt pc ce se ls st σ := by
  obtain ⟨x, hx, h⟩ := iI_sp h
  intro base ρ D aC p l e s m args below meth c H locs lsJ hfl C hW hS hL hZ
  exact lv_iload C.1 C.2.1 hd (hL.at hx (fun z => by cases z)) (h base ρ D aC p l e s m args below meth c H locs lsJ hfl C hW hS hL hZ)
theorem x_iload_n {i : Fin 4} (hd : decode q.2.1 pc = .ok (.iload_n i, 1)) (h : iI ls i fun x => X d q n0 cf sf Rt (pc + 1) ce se ls (.int x :: st) σ) : X d q n0 cf sf Rt pc ce se ls st σ := by
  obtain ⟨x, hx, h⟩ := iI_sp h
  intro base ρ D aC p l e s m args below meth c H locs lsJ hfl C hW hS hL hZ
  exact lv_iload_n C.1 C.2.1 hd rfl (hL.at hx (fun z => by cases z)) (h base ρ D aC p l e s m args below meth c H locs lsJ hfl C hW hS hL hZ)
theorem x_lload {i : Nat} (hd : decode q.2.1 pc = .ok (.lload i, 2)) (h : iL ls i fun x => X d q n0 cf sf Rt (pc + 2) ce se ls (.long x :: st) σ) : X d q n0 cf sf Rt pc ce se ls st σ := by
  obtain ⟨x, hx, h⟩ := iL_sp h
  intro base ρ D aC p l e s m args below meth c H locs lsJ hfl C hW hS hL hZ
  exact lv_lload C.1 C.2.1 hd (hL.at hx (fun z => by cases z)) (h base ρ D aC p l e s m args below meth c H locs lsJ hfl C hW hS hL hZ)
theorem x_lload_n {i : Fin 4} (hd : decode q.2.1 pc = .ok (.lload_n i, 1)) (h : iL ls i fun x => X d q n0 cf sf Rt (pc + 1) ce se ls (.long x :: st) σ) : X d q n0 cf sf Rt pc ce se ls st σ := by
  obtain ⟨x, hx, h⟩ := iL_sp h
  intro base ρ D aC p l e s m args below meth c H locs lsJ hfl C hW hS hL hZ
  exact lv_lload_n C.1 C.2.1 hd rfl (hL.at hx (fun z => by cases z)) (h base ρ D aC p l e s m args below meth c H locs lsJ hfl C hW hS hL hZ)
theorem x_aload {i : Nat} (hd : decode q.2.1 pc = .ok (.aload i, 2)) (h : iR ls i fun x => X d q n0 cf sf Rt (pc + 2) ce se ls (.ref x :: st) σ) : X d q n0 cf sf Rt pc ce se ls st σ := by
  obtain ⟨x, hx, h⟩ := iR_sp h
  intro base ρ D aC p l e s m args below meth c H locs lsJ hfl C hW hS hL hZ
  exact lv_aload C.1 C.2.1 hd (hL.at hx (fun z => by cases z)) (h base ρ D aC p l e s m args below meth c H locs lsJ hfl C hW hS hL hZ)
theorem x_aload_n {i : Fin 4} (hd : decode q.2.1 pc = .ok (.aload_n i, 1)) (h : iR ls i fun x => X d q n0 cf sf Rt (pc + 1) ce se ls (.ref x :: st) σ) : X d q n0 cf sf Rt pc ce se ls st σ := by
  obtain ⟨x, hx, h⟩ := iR_sp h
  intro base ρ D aC p l e s m args below meth c H locs lsJ hfl C hW hS hL hZ
  exact lv_aload_n C.1 C.2.1 hd rfl (hL.at hx (fun z => by cases z)) (h base ρ D aC p l e s m args below meth c H locs lsJ hfl C hW hS hL hZ)
theorem x_istore {i : Nat} (hd : decode q.2.1 pc = .ok (.istore i, 2)) (h : pI st fun x r => i < q.2.2.1 ∧ X d q n0 cf sf Rt (pc + 2) ce se (set1 ls i (.int x)) (r) σ) : X d q n0 cf sf Rt pc ce se ls st σ := by
  obtain ⟨x, r, rfl, hi, h⟩ := pI_sp h
  intro base ρ D aC p l e s m args below meth c H locs lsJ hfl C hW hS hL hZ
  refine lv_istore C.1 C.2.1 hd hL.has hi rfl (fun lsJ' hl' => ?_)
  exact h base ρ D aC p l e s m args below meth c H locs lsJ' hfl C hW hS (Lo_set1 (v := .int x) hL hl') hZ
theorem x_istore_n {i : Fin 4} (hd : decode q.2.1 pc = .ok (.istore_n i, 1)) (h : pI st fun x r => (i : Nat) < q.2.2.1 ∧ X d q n0 cf sf Rt (pc + 1) ce se (set1 ls (i : Nat) (.int x)) (r) σ) : X d q n0 cf sf Rt pc ce se ls st σ := by
  obtain ⟨x, r, rfl, hi, h⟩ := pI_sp h
  intro base ρ D aC p l e s m args below meth c H locs lsJ hfl C hW hS hL hZ
  refine lv_istore_n C.1 C.2.1 hd rfl hL.has hi rfl (fun lsJ' hl' => ?_)
  exact h base ρ D aC p l e s m args below meth c H locs lsJ' hfl C hW hS (Lo_set1 (v := .int x) hL hl') hZ
theorem x_lstore {i : Nat} (hd : decode q.2.1 pc = .ok (.lstore i, 2)) (h : pL st fun x r => i + 1 < q.2.2.1 ∧ X d q n0 cf sf Rt (pc + 2) ce se (set2 ls i (.long x)) (r) σ) : X d q n0 cf sf Rt pc ce se ls st σ := by
  obtain ⟨x, r, rfl, hi, h⟩ := pL_sp h
  intro base ρ D aC p l e s m args below meth c H locs lsJ hfl C hW hS hL hZ
  refine lv_lstore C.1 C.2.1 hd hL.has hi rfl (fun lsJ' hl' => ?_)
  exact h base ρ D aC p l e s m args below meth c H locs lsJ' hfl C hW hS (Lo_set2 (v := .long x) hL hl') hZ
theorem x_lstore_n {i : Fin 4} (hd : decode q.2.1 pc = .ok (.lstore_n i, 1)) (h : pL st fun x r => (i : Nat) + 1 < q.2.2.1 ∧ X d q n0 cf sf Rt (pc + 1) ce se (set2 ls (i : Nat) (.long x)) (r) σ) : X d q n0 cf sf Rt pc ce se ls st σ := by
  obtain ⟨x, r, rfl, hi, h⟩ := pL_sp h
  intro base ρ D aC p l e s m args below meth c H locs lsJ hfl C hW hS hL hZ
  refine lv_lstore_n C.1 C.2.1 hd rfl hL.has hi rfl (fun lsJ' hl' => ?_)
  exact h base ρ D aC p l e s m args below meth c H locs lsJ' hfl C hW hS (Lo_set2 (v := .long x) hL hl') hZ
theorem x_astore {i : Nat} (hd : decode q.2.1 pc = .ok (.astore i, 2)) (h : pR st fun x r => i < q.2.2.1 ∧ X d q n0 cf sf Rt (pc + 2) ce se (set1 ls i (.ref x)) (r) σ) : X d q n0 cf sf Rt pc ce se ls st σ := by
  obtain ⟨x, r, rfl, hi, h⟩ := pR_sp h
  intro base ρ D aC p l e s m args below meth c H locs lsJ hfl C hW hS hL hZ
  refine lv_astore C.1 C.2.1 hd hL.has hi rfl (fun lsJ' hl' => ?_)
  exact h base ρ D aC p l e s m args below meth c H locs lsJ' hfl C hW hS (Lo_set1 (v := .ref x) hL hl') hZ
theorem x_astore_n {i : Fin 4} (hd : decode q.2.1 pc = .ok (.astore_n i, 1)) (h : pR st fun x r => (i : Nat) < q.2.2.1 ∧ X d q n0 cf sf Rt (pc + 1) ce se (set1 ls (i : Nat) (.ref x)) (r) σ) : X d q n0 cf sf Rt pc ce se ls st σ := by
  obtain ⟨x, r, rfl, hi, h⟩ := pR_sp h
  intro base ρ D aC p l e s m args below meth c H locs lsJ hfl C hW hS hL hZ
  refine lv_astore_n C.1 C.2.1 hd rfl hL.has hi rfl (fun lsJ' hl' => ?_)
  exact h base ρ D aC p l e s m args below meth c H locs lsJ' hfl C hW hS (Lo_set1 (v := .ref x) hL hl') hZ
theorem prs_at {ρ : Nat → Nat} {ls : List Value} {i : Nat} {v : Value} (h : ls[i]? = some v) (hn : v ≠ .null) : ∃ k : Nat, (prs ρ ls)[k]? = some (i, lf ρ v) := by
  obtain ⟨k, hk⟩ := List.getElem?_of_mem (prs_mem (ρ := ρ) h hn)
  exact ⟨k, hk⟩
theorem x_iinc {i : Nat} {n : Int} (hd : decode q.2.1 pc = .ok (.iinc i n, 3)) (h : iI ls i fun x => i < q.2.2.1 ∧ X d q n0 cf sf Rt (pc + 3) ce se (set1 ls i (.int (x + Int32.ofInt n))) (st) σ) : X d q n0 cf sf Rt pc ce se ls st σ := by
  obtain ⟨x, hx, hi, h⟩ := iI_sp h
  intro base ρ D aC p l e s m args below meth c H locs lsJ hfl C hW hS hL hZ
  obtain ⟨k, hk⟩ := prs_at (ρ := ρ) hx (fun z => by cases z)
  refine lv_iinc C.1 C.2.1 hd hL.has hk rfl hi rfl (fun lsJ' hl' => ?_)
  exact h base ρ D aC p l e s m args below meth c H locs lsJ' hfl C hW hS (Lo_set1 (v := .int (x + Int32.ofInt n)) hL hl') hZ
theorem x_dup (hd : decode q.2.1 pc = .ok (.dup, 1)) (h : p1 st fun v r => X d q n0 cf sf Rt (pc + 1) ce se ls (v :: v :: r) σ) : X d q n0 cf sf Rt pc ce se ls st σ := by
  obtain ⟨v, r, rfl, hc, h⟩ := p1_sp h
  intro base ρ D aC p l e s m args below meth c H locs lsJ hfl C hW hS hL hZ
  exact lv_dup C.1 C.2.1 hd ((lf_cat ρ v).trans hc) (h base ρ D aC p l e s m args below meth c H locs lsJ hfl C hW hS hL hZ)
theorem x_pop (hd : decode q.2.1 pc = .ok (.pop, 1)) (h : p1 st fun v r => X d q n0 cf sf Rt (pc + 1) ce se ls (r) σ) : X d q n0 cf sf Rt pc ce se ls st σ := by
  obtain ⟨v, r, rfl, hc, h⟩ := p1_sp h
  intro base ρ D aC p l e s m args below meth c H locs lsJ hfl C hW hS hL hZ
  exact lv_pop C.1 C.2.1 hd ((lf_cat ρ v).trans hc) (h base ρ D aC p l e s m args below meth c H locs lsJ hfl C hW hS hL hZ)
theorem x_dup2 (hd : decode q.2.1 pc = .ok (.dup2, 1)) (h : p1 st fun v r => p1 r fun w r => X d q n0 cf sf Rt (pc + 1) ce se ls (v :: w :: v :: w :: r) σ) : X d q n0 cf sf Rt pc ce se ls st σ := by
  obtain ⟨v, r, rfl, hc, h1⟩ := p1_sp h
  obtain ⟨w, r, rfl, hc2, h⟩ := p1_sp h1
  intro base ρ D aC p l e s m args below meth c H locs lsJ hfl C hW hS hL hZ
  exact lv_dup2_11 C.1 C.2.1 hd ((lf_cat ρ v).trans hc) ((lf_cat ρ w).trans hc2) (h base ρ D aC p l e s m args below meth c H locs lsJ hfl C hW hS hL hZ)
theorem x_if_eq {off : Int} {t : Nat} (ht : (pc : Int) + off = (t : Int)) (hd : decode q.2.1 pc = .ok (.ifCond .eq off, 3)) (h : pI st fun x r => (x = 0 → X d q n0 cf sf Rt t ce se ls r σ) ∧ (¬ (x = 0) → X d q n0 cf sf Rt (pc + 3) ce se ls (r) σ)) : X d q n0 cf sf Rt pc ce se ls st σ := by
  obtain ⟨x, r, rfl, h1, h2⟩ := pI_sp h
  intro base ρ D aC p l e s m args below meth c H locs lsJ hfl C hW hS hL hZ
  exact lv_if_eq C.1 C.2.1 hd ht (fun z => h1 z base ρ D aC p l e s m args below meth c H locs lsJ hfl C hW hS hL hZ) (fun z => h2 z base ρ D aC p l e s m args below meth c H locs lsJ hfl C hW hS hL hZ)
theorem x_icmp_eq {off : Int} {t : Nat} (ht : (pc : Int) + off = (t : Int)) (hd : decode q.2.1 pc = .ok (.if_icmp .eq off, 3)) (h : pI st fun y r => pI r fun x r => (x = y → X d q n0 cf sf Rt t ce se ls r σ) ∧ (¬ (x = y) → X d q n0 cf sf Rt (pc + 3) ce se ls (r) σ)) : X d q n0 cf sf Rt pc ce se ls st σ := by
  obtain ⟨y, r, rfl, h1⟩ := pI_sp h
  obtain ⟨x, r, rfl, h1, h2⟩ := pI_sp h1
  intro base ρ D aC p l e s m args below meth c H locs lsJ hfl C hW hS hL hZ
  exact lv_icmp_eq C.1 C.2.1 hd ht (fun z => h1 z base ρ D aC p l e s m args below meth c H locs lsJ hfl C hW hS hL hZ) (fun z => h2 z base ρ D aC p l e s m args below meth c H locs lsJ hfl C hW hS hL hZ)
theorem x_if_ne {off : Int} {t : Nat} (ht : (pc : Int) + off = (t : Int)) (hd : decode q.2.1 pc = .ok (.ifCond .ne off, 3)) (h : pI st fun x r => (¬ x = 0 → X d q n0 cf sf Rt t ce se ls r σ) ∧ (x = 0 → X d q n0 cf sf Rt (pc + 3) ce se ls (r) σ)) : X d q n0 cf sf Rt pc ce se ls st σ := by
  obtain ⟨x, r, rfl, h1, h2⟩ := pI_sp h
  intro base ρ D aC p l e s m args below meth c H locs lsJ hfl C hW hS hL hZ
  exact lv_if_ne C.1 C.2.1 hd ht (fun z => h1 z base ρ D aC p l e s m args below meth c H locs lsJ hfl C hW hS hL hZ) (fun z => h2 z base ρ D aC p l e s m args below meth c H locs lsJ hfl C hW hS hL hZ)
theorem x_icmp_ne {off : Int} {t : Nat} (ht : (pc : Int) + off = (t : Int)) (hd : decode q.2.1 pc = .ok (.if_icmp .ne off, 3)) (h : pI st fun y r => pI r fun x r => (¬ x = y → X d q n0 cf sf Rt t ce se ls r σ) ∧ (x = y → X d q n0 cf sf Rt (pc + 3) ce se ls (r) σ)) : X d q n0 cf sf Rt pc ce se ls st σ := by
  obtain ⟨y, r, rfl, h1⟩ := pI_sp h
  obtain ⟨x, r, rfl, h1, h2⟩ := pI_sp h1
  intro base ρ D aC p l e s m args below meth c H locs lsJ hfl C hW hS hL hZ
  exact lv_icmp_ne C.1 C.2.1 hd ht (fun z => h1 z base ρ D aC p l e s m args below meth c H locs lsJ hfl C hW hS hL hZ) (fun z => h2 z base ρ D aC p l e s m args below meth c H locs lsJ hfl C hW hS hL hZ)
theorem x_if_lt {off : Int} {t : Nat} (ht : (pc : Int) + off = (t : Int)) (hd : decode q.2.1 pc = .ok (.ifCond .lt off, 3)) (h : pI st fun x r => (x < 0 → X d q n0 cf sf Rt t ce se ls r σ) ∧ (¬ (x < 0) → X d q n0 cf sf Rt (pc + 3) ce se ls (r) σ)) : X d q n0 cf sf Rt pc ce se ls st σ := by
  obtain ⟨x, r, rfl, h1, h2⟩ := pI_sp h
  intro base ρ D aC p l e s m args below meth c H locs lsJ hfl C hW hS hL hZ
  exact lv_if_lt C.1 C.2.1 hd ht (fun z => h1 z base ρ D aC p l e s m args below meth c H locs lsJ hfl C hW hS hL hZ) (fun z => h2 z base ρ D aC p l e s m args below meth c H locs lsJ hfl C hW hS hL hZ)
theorem x_icmp_lt {off : Int} {t : Nat} (ht : (pc : Int) + off = (t : Int)) (hd : decode q.2.1 pc = .ok (.if_icmp .lt off, 3)) (h : pI st fun y r => pI r fun x r => (x < y → X d q n0 cf sf Rt t ce se ls r σ) ∧ (¬ (x < y) → X d q n0 cf sf Rt (pc + 3) ce se ls (r) σ)) : X d q n0 cf sf Rt pc ce se ls st σ := by
  obtain ⟨y, r, rfl, h1⟩ := pI_sp h
  obtain ⟨x, r, rfl, h1, h2⟩ := pI_sp h1
  intro base ρ D aC p l e s m args below meth c H locs lsJ hfl C hW hS hL hZ
  exact lv_icmp_lt C.1 C.2.1 hd ht (fun z => h1 z base ρ D aC p l e s m args below meth c H locs lsJ hfl C hW hS hL hZ) (fun z => h2 z base ρ D aC p l e s m args below meth c H locs lsJ hfl C hW hS hL hZ)
theorem x_if_ge {off : Int} {t : Nat} (ht : (pc : Int) + off = (t : Int)) (hd : decode q.2.1 pc = .ok (.ifCond .ge off, 3)) (h : pI st fun x r => (0 ≤ x → X d q n0 cf sf Rt t ce se ls r σ) ∧ (¬ (0 ≤ x) → X d q n0 cf sf Rt (pc + 3) ce se ls (r) σ)) : X d q n0 cf sf Rt pc ce se ls st σ := by
  obtain ⟨x, r, rfl, h1, h2⟩ := pI_sp h
  intro base ρ D aC p l e s m args below meth c H locs lsJ hfl C hW hS hL hZ
  exact lv_if_ge C.1 C.2.1 hd ht (fun z => h1 z base ρ D aC p l e s m args below meth c H locs lsJ hfl C hW hS hL hZ) (fun z => h2 z base ρ D aC p l e s m args below meth c H locs lsJ hfl C hW hS hL hZ)
theorem x_icmp_ge {off : Int} {t : Nat} (ht : (pc : Int) + off = (t : Int)) (hd : decode q.2.1 pc = .ok (.if_icmp .ge off, 3)) (h : pI st fun y r => pI r fun x r => (y ≤ x → X d q n0 cf sf Rt t ce se ls r σ) ∧ (¬ (y ≤ x) → X d q n0 cf sf Rt (pc + 3) ce se ls (r) σ)) : X d q n0 cf sf Rt pc ce se ls st σ := by
  obtain ⟨y, r, rfl, h1⟩ := pI_sp h
  obtain ⟨x, r, rfl, h1, h2⟩ := pI_sp h1
  intro base ρ D aC p l e s m args below meth c H locs lsJ hfl C hW hS hL hZ
  exact lv_icmp_ge C.1 C.2.1 hd ht (fun z => h1 z base ρ D aC p l e s m args below meth c H locs lsJ hfl C hW hS hL hZ) (fun z => h2 z base ρ D aC p l e s m args below meth c H locs lsJ hfl C hW hS hL hZ)
theorem x_if_gt {off : Int} {t : Nat} (ht : (pc : Int) + off = (t : Int)) (hd : decode q.2.1 pc = .ok (.ifCond .gt off, 3)) (h : pI st fun x r => (0 < x → X d q n0 cf sf Rt t ce se ls r σ) ∧ (¬ (0 < x) → X d q n0 cf sf Rt (pc + 3) ce se ls (r) σ)) : X d q n0 cf sf Rt pc ce se ls st σ := by
  obtain ⟨x, r, rfl, h1, h2⟩ := pI_sp h
  intro base ρ D aC p l e s m args below meth c H locs lsJ hfl C hW hS hL hZ
  exact lv_if_gt C.1 C.2.1 hd ht (fun z => h1 z base ρ D aC p l e s m args below meth c H locs lsJ hfl C hW hS hL hZ) (fun z => h2 z base ρ D aC p l e s m args below meth c H locs lsJ hfl C hW hS hL hZ)
theorem x_icmp_gt {off : Int} {t : Nat} (ht : (pc : Int) + off = (t : Int)) (hd : decode q.2.1 pc = .ok (.if_icmp .gt off, 3)) (h : pI st fun y r => pI r fun x r => (y < x → X d q n0 cf sf Rt t ce se ls r σ) ∧ (¬ (y < x) → X d q n0 cf sf Rt (pc + 3) ce se ls (r) σ)) : X d q n0 cf sf Rt pc ce se ls st σ := by
  obtain ⟨y, r, rfl, h1⟩ := pI_sp h
  obtain ⟨x, r, rfl, h1, h2⟩ := pI_sp h1
  intro base ρ D aC p l e s m args below meth c H locs lsJ hfl C hW hS hL hZ
  exact lv_icmp_gt C.1 C.2.1 hd ht (fun z => h1 z base ρ D aC p l e s m args below meth c H locs lsJ hfl C hW hS hL hZ) (fun z => h2 z base ρ D aC p l e s m args below meth c H locs lsJ hfl C hW hS hL hZ)
theorem x_if_le {off : Int} {t : Nat} (ht : (pc : Int) + off = (t : Int)) (hd : decode q.2.1 pc = .ok (.ifCond .le off, 3)) (h : pI st fun x r => (x ≤ 0 → X d q n0 cf sf Rt t ce se ls r σ) ∧ (¬ (x ≤ 0) → X d q n0 cf sf Rt (pc + 3) ce se ls (r) σ)) : X d q n0 cf sf Rt pc ce se ls st σ := by
  obtain ⟨x, r, rfl, h1, h2⟩ := pI_sp h
  intro base ρ D aC p l e s m args below meth c H locs lsJ hfl C hW hS hL hZ
  exact lv_if_le C.1 C.2.1 hd ht (fun z => h1 z base ρ D aC p l e s m args below meth c H locs lsJ hfl C hW hS hL hZ) (fun z => h2 z base ρ D aC p l e s m args below meth c H locs lsJ hfl C hW hS hL hZ)
theorem x_icmp_le {off : Int} {t : Nat} (ht : (pc : Int) + off = (t : Int)) (hd : decode q.2.1 pc = .ok (.if_icmp .le off, 3)) (h : pI st fun y r => pI r fun x r => (x ≤ y → X d q n0 cf sf Rt t ce se ls r σ) ∧ (¬ (x ≤ y) → X d q n0 cf sf Rt (pc + 3) ce se ls (r) σ)) : X d q n0 cf sf Rt pc ce se ls st σ := by
  obtain ⟨y, r, rfl, h1⟩ := pI_sp h
  obtain ⟨x, r, rfl, h1, h2⟩ := pI_sp h1
  intro base ρ D aC p l e s m args below meth c H locs lsJ hfl C hW hS hL hZ
  exact lv_icmp_le C.1 C.2.1 hd ht (fun z => h1 z base ρ D aC p l e s m args below meth c H locs lsJ hfl C hW hS hL hZ) (fun z => h2 z base ρ D aC p l e s m args below meth c H locs lsJ hfl C hW hS hL hZ)
theorem x_goto {off : Int} {t : Nat} (ht : (pc : Int) + off = (t : Int)) (hd : decode q.2.1 pc = .ok (.goto off, 3)) (h : X d q n0 cf sf Rt t ce se ls st σ) : X d q n0 cf sf Rt pc ce se ls st σ := by
  intro base ρ D aC p l e s m args below meth c H locs lsJ hfl C hW hS hL hZ
  exact lv_goto C.1 C.2.1 hd ht (h base ρ D aC p l e s m args below meth c H locs lsJ hfl C hW hS hL hZ)
end XOPS
