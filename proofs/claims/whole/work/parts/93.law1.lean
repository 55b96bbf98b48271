abbrev q_L_law : MI := (x, code, 7, ret)
/-- one step of the law: its script lies at 2000 -/
def GG.stS (L : Nat) (xs : Nat → Int32) (d cf sf nL : Nat) (K : Nat → Nat → Nat → List Value → List Value → St → Prop) (e : Ent) (ce se : Nat) (ls st : List Value) (σ : St) : Prop := match e with
  | (.iaload, nx, _, _, _) => pI st fun i r => pR r fun k r => (k = 2000 ∧ vp_in i L) ∧ K nx ce se ls (.int (xs i.toNatClampNeg) :: r) σ
  | (.arraylength, nx, _, _, _) => pR st fun k r => k = 2000 ∧ K nx ce se ls (.int (nI L) :: r) σ
  | e => stp d cf sf nL noR K e ce se ls st σ
def GG.wpS (L : Nat) (xs : Nat → Int32) (d cf sf nL : Nat) (K : Nat → Nat → Nat → List Value → List Value → St → Prop) (T : Nat → Option Ent) (cuts : List Nat) : Nat → Nat → Nat → Nat → List Value → List Value → St → Prop
  | 0, pc, ce, se, ls, st, σ => K pc ce se ls st σ
  | n + 1, pc, ce, se, ls, st, σ => match T pc with
    | none => K pc ce se ls st σ
    | some e => stS L xs d cf sf nL (fun pc' ce' se' ls' st' σ' => if cuts.contains pc' = true then K pc' ce' se' ls' st' σ' else wpS L xs d cf sf nL K T cuts n pc' ce' se' ls' st' σ') e ce se ls st σ
def GG.gOkS : Instr → Bool
  | .iaload => true
  | .arraylength => true
  | i => gOk i
def GG.okS (t : Tab) : Bool := t.all fun x => gOkS x.2.2.1
def GG.GPl (b L : Nat) (xs : Nat → Int32) (c0 s0 : Nat) : GP :=
  (room_1, c0, s0, (fun base ρ p s m args c => args = #[.ref b] ∧ ρ 2000 = b ∧ va_X b L xs s s.heap ∧ b < s.heap.size ∧ base = s.heap.size ∧ ∀ w ∈ lw_tbl, w.before args s = true), (fun base ρ D aC below args s meth c => lw_Z below args s))
section LAW1
variable {d : Nat} {q : MI} {n0 cf sf : Nat} {Rt : GP} {pc ce se b L c0 s0 nx κ nL n : Nat} {xs : Nat → Int32} {ls st : List Value} {σ : St} {a : List Nat} {w : Cond} {K : Nat → Nat → Nat → List Value → List Value → St → Prop} {T : Nat → Option Ent} {cuts : List Nat}
theorem GG.x_sld (hd : decode q.2.1 pc = .ok (.iaload, 1)) (h : pI st fun i r => pR r fun k r => (k = 2000 ∧ vp_in i L) ∧ X d q n0 cf sf (GPl b L xs c0 s0) (pc + 1) ce se ls (.int (xs i.toNatClampNeg) :: r) σ) : X d q n0 cf sf (GPl b L xs c0 s0) pc ce se ls st σ := by
  obtain ⟨i, r, rfl, h1⟩ := pI_sp h
  obtain ⟨k, r, rfl, ⟨rfl, hin⟩, h9⟩ := pR_sp h1
  intro base ρ D aC p l e s m args below meth c H locs lsJ hfl C hW hS hL hZ
  obtain ⟨p1, p2, p3, p4, p5, _⟩ := hfl.2.2
  show W _ _ _ _ _ _ _ _ _ _ _ _ _ _ _ (F0 m pc lsJ (.int i :: .ref (ρ 2000) :: r.map (lf ρ)))
  rw [p2]
  exact va_sld C.1 C.2.1 p3 p4 (by show ¬ base ≤ b; omega) hS hin hd (h9 base ρ D aC p l e s m args below meth c H locs lsJ hfl C hW hS hL hZ)
theorem GG.x_slen (hd : decode q.2.1 pc = .ok (.arraylength, 1)) (h : pR st fun k r => k = 2000 ∧ X d q n0 cf sf (GPl b L xs c0 s0) (pc + 1) ce se ls (.int (nI L) :: r) σ) : X d q n0 cf sf (GPl b L xs c0 s0) pc ce se ls st σ := by
  obtain ⟨k, r, rfl, rfl, h9⟩ := pR_sp h
  intro base ρ D aC p l e s m args below meth c H locs lsJ hfl C hW hS hL hZ
  obtain ⟨p1, p2, p3, p4, p5, _⟩ := hfl.2.2
  show W _ _ _ _ _ _ _ _ _ _ _ _ _ _ _ (F0 m pc lsJ (.ref (ρ 2000) :: r.map (lf ρ)))
  rw [p2]
  exact va_slen C.1 C.2.1 p3 p4 (by show ¬ base ≤ b; omega) hS hd (h9 base ρ D aC p l e s m args below meth c H locs lsJ hfl C hW hS hL hZ)
theorem GG.X_stepS {hl : List Nat} {e : Ent} (hck : chk hl q pc e = true) (hgo : gOkS e.1 = true) (hK : ∀ pc' ce' se' ls' st' σ', K pc' ce' se' ls' st' σ' → X d q n0 cf sf (GPl b L xs c0 s0) pc' ce' se' ls' st' σ') (h : stS L xs d cf sf q.2.2.1 K e ce se ls st σ) : X d q n0 cf sf (GPl b L xs c0 s0) pc ce se ls st σ := by
  have hck0 := hck
  obtain ⟨ins, nx, κ, a, w⟩ := e
  unfold chk at hck
  obtain ⟨hdn, hs⟩ := Bool.and_eq_true_iff.mp hck
  by_cases h1 : ins = .iaload
  · subst h1
    obtain ⟨hd, hn⟩ := of_decide_eq_true (show decide (decode q.2.1 pc = .ok (.iaload, ln (.iaload)) ∧ nx = pc + ln (.iaload)) = true from hdn)
    subst hn
    obtain ⟨i, r, rfl, h1⟩ := pI_sp h
    obtain ⟨k, r, rfl, hk, h2⟩ := pR_sp h1
    exact x_sld hd ⟨hk, hK _ _ _ _ _ _ h2⟩
  · by_cases h2 : ins = .arraylength
    · subst h2
      obtain ⟨hd, hn⟩ := of_decide_eq_true (show decide (decode q.2.1 pc = .ok (.arraylength, ln (.arraylength)) ∧ nx = pc + ln (.arraylength)) = true from hdn)
      subst hn
      obtain ⟨k, r, rfl, hk, h2⟩ := pR_sp h
      exact x_slen hd ⟨hk, hK _ _ _ _ _ _ h2⟩
    · have hg : gOk ins = true := by
        cases ins <;> first | exact hgo | exact absurd rfl h1 | exact absurd rfl h2
      have h' : stp d cf sf q.2.2.1 noR K (ins, nx, κ, a, w) ce se ls st σ := by
        cases ins <;> first | exact h | exact absurd rfl h1 | exact absurd rfl h2
      exact X_step hck0 hg hK h'
theorem GG.okS_at {t : Tab} (h : okS t = true) {pc : Nat} {e : Ent} (he : (pc, e) ∈ t.map (fun x => (x.1, x.2.2))) : gOkS e.1 = true := by
  obtain ⟨x, hx, hx2⟩ := List.mem_map.mp he
  have := List.all_eq_true.mp h x hx
  cases hx2
  exact this
theorem GG.X_wpS {t : Tab} (cuts : List Nat) (ht : okT q t = true) (hg : okS t = true) : ∀ (n : Nat) {pc ce se : Nat} {ls st : List Value} {σ : St}, wpS L xs d cf sf q.2.2.1 (X d q n0 cf sf (GPl b L xs c0 s0)) (lk t) cuts n pc ce se ls st σ → X d q n0 cf sf (GPl b L xs c0 s0) pc ce se ls st σ
  | 0, pc, ce, se, ls, st, σ, h => h
  | n + 1, pc, ce, se, ls, st, σ, h => by
    unfold wpS at h
    split at h
    · exact h
    · rename_i e he
      obtain ⟨⟨hl, hck⟩, hm⟩ := lk_ok ht he
      refine X_stepS hck (okS_at hg hm) (fun pc' ce' se' ls' st' σ' z => ?_) h
      split at z
      · exact z
      · exact X_wpS cuts ht hg n z
theorem GG.wpS_s {e : Ent} (h : T pc = some e) : wpS L xs d cf sf nL K T cuts (n + 1) pc ce se ls st σ = stS L xs d cf sf nL (fun pc' ce' se' ls' st' σ' => if cuts.contains pc' = true then K pc' ce' se' ls' st' σ' else wpS L xs d cf sf nL K T cuts n pc' ce' se' ls' st' σ') e ce se ls st σ := by
  show (match T pc with
    | none => _
    | some e => _) = _
  rw [h]
theorem GG.wpS_n (h : T pc = none) : wpS L xs d cf sf nL K T cuts (n + 1) pc ce se ls st σ = K pc ce se ls st σ := by
  show (match T pc with
    | none => _
    | some e => _) = _
  rw [h]
theorem GG.sS_iaload : stS L xs d cf sf nL K (.iaload, nx, κ, a, w) ce se ls st σ = (pI st fun i r => pR r fun k r => (k = 2000 ∧ vp_in i L) ∧ K nx ce se ls (.int (xs i.toNatClampNeg) :: r) σ) := rfl
theorem GG.sS_alen : stS L xs d cf sf nL K (.arraylength, nx, κ, a, w) ce se ls st σ = (pR st fun k r => k = 2000 ∧ K nx ce se ls (.int (nI L) :: r) σ) := rfl
theorem GG.sS_iadd  : stS L xs d cf sf nL K (.iadd, nx, κ, a, w) ce se ls st σ = stp d cf sf nL noR K (.iadd, nx, κ, a, w) ce se ls st σ := rfl
theorem GG.sS_isub  : stS L xs d cf sf nL K (.isub, nx, κ, a, w) ce se ls st σ = stp d cf sf nL noR K (.isub, nx, κ, a, w) ce se ls st σ := rfl
theorem GG.sS_iand  : stS L xs d cf sf nL K (.iand, nx, κ, a, w) ce se ls st σ = stp d cf sf nL noR K (.iand, nx, κ, a, w) ce se ls st σ := rfl
theorem GG.sS_iconst {n1 : Int} : stS L xs d cf sf nL K (.iconst n1, nx, κ, a, w) ce se ls st σ = stp d cf sf nL noR K (.iconst n1, nx, κ, a, w) ce se ls st σ := rfl
theorem GG.sS_bipush {n1 : Int} : stS L xs d cf sf nL K (.bipush n1, nx, κ, a, w) ce se ls st σ = stp d cf sf nL noR K (.bipush n1, nx, κ, a, w) ce se ls st σ := rfl
theorem GG.sS_lcmp  : stS L xs d cf sf nL K (.lcmp, nx, κ, a, w) ce se ls st σ = stp d cf sf nL noR K (.lcmp, nx, κ, a, w) ce se ls st σ := rfl
theorem GG.sS_i2l  : stS L xs d cf sf nL K (.i2l, nx, κ, a, w) ce se ls st σ = stp d cf sf nL noR K (.i2l, nx, κ, a, w) ce se ls st σ := rfl
theorem GG.sS_iload {n1 : Nat} : stS L xs d cf sf nL K (.iload n1, nx, κ, a, w) ce se ls st σ = stp d cf sf nL noR K (.iload n1, nx, κ, a, w) ce se ls st σ := rfl
theorem GG.sS_iload_n {n1 : Fin 4} : stS L xs d cf sf nL K (.iload_n n1, nx, κ, a, w) ce se ls st σ = stp d cf sf nL noR K (.iload_n n1, nx, κ, a, w) ce se ls st σ := rfl
theorem GG.sS_aload {n1 : Nat} : stS L xs d cf sf nL K (.aload n1, nx, κ, a, w) ce se ls st σ = stp d cf sf nL noR K (.aload n1, nx, κ, a, w) ce se ls st σ := rfl
theorem GG.sS_aload_n {n1 : Fin 4} : stS L xs d cf sf nL K (.aload_n n1, nx, κ, a, w) ce se ls st σ = stp d cf sf nL noR K (.aload_n n1, nx, κ, a, w) ce se ls st σ := rfl
theorem GG.sS_istore {n1 : Nat} : stS L xs d cf sf nL K (.istore n1, nx, κ, a, w) ce se ls st σ = stp d cf sf nL noR K (.istore n1, nx, κ, a, w) ce se ls st σ := rfl
theorem GG.sS_istore_n {n1 : Fin 4} : stS L xs d cf sf nL K (.istore_n n1, nx, κ, a, w) ce se ls st σ = stp d cf sf nL noR K (.istore_n n1, nx, κ, a, w) ce se ls st σ := rfl
theorem GG.sS_astore {n1 : Nat} : stS L xs d cf sf nL K (.astore n1, nx, κ, a, w) ce se ls st σ = stp d cf sf nL noR K (.astore n1, nx, κ, a, w) ce se ls st σ := rfl
theorem GG.sS_astore_n {n1 : Fin 4} : stS L xs d cf sf nL K (.astore_n n1, nx, κ, a, w) ce se ls st σ = stp d cf sf nL noR K (.astore_n n1, nx, κ, a, w) ce se ls st σ := rfl
theorem GG.sS_iinc {n1 : Nat} {n2 : Int} : stS L xs d cf sf nL K (.iinc n1 n2, nx, κ, a, w) ce se ls st σ = stp d cf sf nL noR K (.iinc n1 n2, nx, κ, a, w) ce se ls st σ := rfl
theorem GG.sS_dup  : stS L xs d cf sf nL K (.dup, nx, κ, a, w) ce se ls st σ = stp d cf sf nL noR K (.dup, nx, κ, a, w) ce se ls st σ := rfl
theorem GG.sS_pop  : stS L xs d cf sf nL K (.pop, nx, κ, a, w) ce se ls st σ = stp d cf sf nL noR K (.pop, nx, κ, a, w) ce se ls st σ := rfl
theorem GG.sS_ifCond {n1 : ClassFile.Cond} {n2 : Int} : stS L xs d cf sf nL K (.ifCond n1 n2, nx, κ, a, w) ce se ls st σ = stp d cf sf nL noR K (.ifCond n1 n2, nx, κ, a, w) ce se ls st σ := rfl
theorem GG.sS_if_icmp {n1 : ClassFile.Cond} {n2 : Int} : stS L xs d cf sf nL K (.if_icmp n1 n2, nx, κ, a, w) ce se ls st σ = stp d cf sf nL noR K (.if_icmp n1 n2, nx, κ, a, w) ce se ls st σ := rfl
theorem GG.sS_goto {n1 : Int} : stS L xs d cf sf nL K (.goto n1, nx, κ, a, w) ce se ls st σ = stp d cf sf nL noR K (.goto n1, nx, κ, a, w) ce se ls st σ := rfl
theorem GG.sS_getfield {n1 : Nat} : stS L xs d cf sf nL K (.getfield n1, nx, κ, a, w) ce se ls st σ = stp d cf sf nL noR K (.getfield n1, nx, κ, a, w) ce se ls st σ := rfl
theorem GG.sS_laload  : stS L xs d cf sf nL K (.laload, nx, κ, a, w) ce se ls st σ = stp d cf sf nL noR K (.laload, nx, κ, a, w) ce se ls st σ := rfl
theorem GG.sS_lastore  : stS L xs d cf sf nL K (.lastore, nx, κ, a, w) ce se ls st σ = stp d cf sf nL noR K (.lastore, nx, κ, a, w) ce se ls st σ := rfl
theorem GG.sS_invokevirtual {n1 : Nat} : stS L xs d cf sf nL K (.invokevirtual n1, nx, κ, a, w) ce se ls st σ = stp d cf sf nL noR K (.invokevirtual n1, nx, κ, a, w) ce se ls st σ := rfl
theorem GG.sS_invokespecial {n1 : Nat} : stS L xs d cf sf nL K (.invokespecial n1, nx, κ, a, w) ce se ls st σ = stp d cf sf nL noR K (.invokespecial n1, nx, κ, a, w) ce se ls st σ := rfl
theorem GG.sS_new {n1 : Nat} : stS L xs d cf sf nL K (.new n1, nx, κ, a, w) ce se ls st σ = stp d cf sf nL noR K (.new n1, nx, κ, a, w) ce se ls st σ := rfl
theorem GG.sS_newarray {n1 : ArrayType} : stS L xs d cf sf nL K (.newarray n1, nx, κ, a, w) ce se ls st σ = stp d cf sf nL noR K (.newarray n1, nx, κ, a, w) ce se ls st σ := rfl
theorem GG.sS_tableswitch {n1 n2 n3 : Int} {n4 : Array Int} : stS L xs d cf sf nL K (.tableswitch n1 n2 n3 n4, nx, κ, a, w) ce se ls st σ = stp d cf sf nL noR K (.tableswitch n1 n2 n3 n4, nx, κ, a, w) ce se ls st σ := rfl
end LAW1
