/-- from pc on, until a cut or where the table ends -/
def wp (d cf sf nL : Nat) (Rt : Option Value → St → Prop) (K : Nat → Nat → Nat → List Value → List Value → St → Prop) (T : Nat → Option Ent) (cuts : List Nat) : Nat → Nat → Nat → Nat → List Value → List Value → St → Prop
  | 0, pc, ce, se, ls, st, σ => K pc ce se ls st σ
  | n + 1, pc, ce, se, ls, st, σ => match T pc with
    | none => K pc ce se ls st σ
    | some e => stp d cf sf nL Rt (fun pc' ce' se' ls' st' σ' => if cuts.contains pc' = true then K pc' ce' se' ls' st' σ' else wp d cf sf nL Rt K T cuts n pc' ce' se' ls' st' σ') e ce se ls st σ
theorem lk_ok {q : MI} {t : Tab} (h : okT q t = true) {pc : Nat} {e : Ent} (he : lk t pc = some e) : ∃ hl, chk hl q pc e = true := by
  unfold okT at h
  unfold lk at he
  induction t with
  | nil => cases he
  | cons x t ih =>
    obtain ⟨p0, hl, e0⟩ := x
    rw [List.all_cons, Bool.and_eq_true] at h
    rw [List.lookup_cons] at he
    by_cases hp : (pc == p0) = true
    · rw [hp] at he
      cases he
      rw [eq_of_beq hp]
      exact ⟨hl, h.1⟩
    · have hp : (pc == p0) = false := by simpa using hp
      rw [hp] at he
      exact ih h.2 he
theorem X_wp {d : Nat} {q : MI} {n0 cf sf : Nat} {Rt : Option Value → St → Prop} {t : Tab} (cuts : List Nat) (ht : okT q t = true) : ∀ (n : Nat) {pc ce se : Nat} {ls st : List Value} {σ : St}, wp d cf sf q.2.2.1 Rt (X d q n0 cf sf Rt) (lk t) cuts n pc ce se ls st σ → X d q n0 cf sf Rt pc ce se ls st σ
  | 0, pc, ce, se, ls, st, σ, h => h
  | n + 1, pc, ce, se, ls, st, σ, h => by
    unfold wp at h
    split at h
    · exact h
    · rename_i e he
      obtain ⟨hl, hck⟩ := lk_ok ht he
      refine X_step hck (fun pc' ce' se' ls' st' σ' z => ?_) h
      split at z
      · exact z
      · exact X_wp cuts ht n z
section EVAL
variable {d cf sf nL : Nat} {Rt : Option Value → St → Prop} {K : Nat → Nat → Nat → List Value → List Value → St → Prop} {T : Nat → Option Ent} {cuts : List Nat} {n pc ce se nx κ : Nat} {a : List Nat} {w : Cond} {ls st : List Value} {σ : St}
theorem wp_s {e : Ent} (h : T pc = some e) : wp d cf sf nL Rt K T cuts (n + 1) pc ce se ls st σ = stp d cf sf nL Rt (fun pc' ce' se' ls' st' σ' => if cuts.contains pc' = true then K pc' ce' se' ls' st' σ' else wp d cf sf nL Rt K T cuts n pc' ce' se' ls' st' σ') e ce se ls st σ := by
  show (match T pc with
    | none => _
    | some e => _) = _
  rw [h]
theorem st_iadd : stp d cf sf nL Rt K (.iadd, nx, κ, a, w) ce se ls st σ = (pI st fun y r => pI r fun x r => K nx ce se ls (.int (x + y) :: r) σ) := rfl
theorem st_isub : stp d cf sf nL Rt K (.isub, nx, κ, a, w) ce se ls st σ = (pI st fun y r => pI r fun x r => K nx ce se ls (.int (x - y) :: r) σ) := rfl
theorem st_imul : stp d cf sf nL Rt K (.imul, nx, κ, a, w) ce se ls st σ = (pI st fun y r => pI r fun x r => K nx ce se ls (.int (x * y) :: r) σ) := rfl
theorem st_iand : stp d cf sf nL Rt K (.iand, nx, κ, a, w) ce se ls st σ = (pI st fun y r => pI r fun x r => K nx ce se ls (.int (x &&& y) :: r) σ) := rfl
theorem st_ior : stp d cf sf nL Rt K (.ior, nx, κ, a, w) ce se ls st σ = (pI st fun y r => pI r fun x r => K nx ce se ls (.int (x ||| y) :: r) σ) := rfl
theorem st_ishl : stp d cf sf nL Rt K (.ishl, nx, κ, a, w) ce se ls st σ = (pI st fun y r => pI r fun x r => K nx ce se ls (.int (x <<< (y &&& 31)) :: r) σ) := rfl
theorem st_ishr : stp d cf sf nL Rt K (.ishr, nx, κ, a, w) ce se ls st σ = (pI st fun y r => pI r fun x r => K nx ce se ls (.int (x >>> (y &&& 31)) :: r) σ) := rfl
theorem st_idiv : stp d cf sf nL Rt K (.idiv, nx, κ, a, w) ce se ls st σ = (pI st fun y r => pI r fun x r => ¬ y = 0 ∧ K nx ce se ls (.int (x / y) :: r) σ) := rfl
theorem st_irem : stp d cf sf nL Rt K (.irem, nx, κ, a, w) ce se ls st σ = (pI st fun y r => pI r fun x r => ¬ y = 0 ∧ K nx ce se ls (.int (x - x / y * y) :: r) σ) := rfl
theorem st_ladd : stp d cf sf nL Rt K (.ladd, nx, κ, a, w) ce se ls st σ = (pL st fun y r => pL r fun x r => K nx ce se ls (.long (x + y) :: r) σ) := rfl
theorem st_lsub : stp d cf sf nL Rt K (.lsub, nx, κ, a, w) ce se ls st σ = (pL st fun y r => pL r fun x r => K nx ce se ls (.long (x - y) :: r) σ) := rfl
theorem st_lmul : stp d cf sf nL Rt K (.lmul, nx, κ, a, w) ce se ls st σ = (pL st fun y r => pL r fun x r => K nx ce se ls (.long (x * y) :: r) σ) := rfl
theorem st_lor : stp d cf sf nL Rt K (.lor, nx, κ, a, w) ce se ls st σ = (pL st fun y r => pL r fun x r => K nx ce se ls (.long (x ||| y) :: r) σ) := rfl
theorem st_land : stp d cf sf nL Rt K (.land, nx, κ, a, w) ce se ls st σ = (pL st fun y r => pL r fun x r => K nx ce se ls (.long (x &&& y) :: r) σ) := rfl
theorem st_ldiv : stp d cf sf nL Rt K (.ldiv, nx, κ, a, w) ce se ls st σ = (pL st fun y r => pL r fun x r => ¬ y = 0 ∧ K nx ce se ls (.long (x / y) :: r) σ) := rfl
theorem st_lshl : stp d cf sf nL Rt K (.lshl, nx, κ, a, w) ce se ls st σ = (pI st fun y r => pL r fun x r => K nx ce se ls (.long (x <<< (y.toInt64 &&& 63)) :: r) σ) := rfl
theorem st_lcmp : stp d cf sf nL Rt K (.lcmp, nx, κ, a, w) ce se ls st σ = (pL st fun y r => pL r fun x r => K nx ce se ls (.int (lg_cmp x y) :: r) σ) := rfl
theorem st_i2l : stp d cf sf nL Rt K (.i2l, nx, κ, a, w) ce se ls st σ = (pI st fun x r => K nx ce se ls (.long x.toInt64 :: r) σ) := rfl
theorem st_i2b : stp d cf sf nL Rt K (.i2b, nx, κ, a, w) ce se ls st σ = (pI st fun x r => K nx ce se ls (.int x.toInt8.toInt32 :: r) σ) := rfl
theorem st_l2i : stp d cf sf nL Rt K (.l2i, nx, κ, a, w) ce se ls st σ = (pL st fun x r => K nx ce se ls (.int x.toInt32 :: r) σ) := rfl
theorem st_iconst {n : Int} : stp d cf sf nL Rt K (.iconst n, nx, κ, a, w) ce se ls st σ = (K nx ce se ls (.int (kc w) :: st) σ) := rfl
theorem st_bipush {n : Int} : stp d cf sf nL Rt K (.bipush n, nx, κ, a, w) ce se ls st σ = (K nx ce se ls (.int (kc w) :: st) σ) := rfl
theorem st_sipush {n : Int} : stp d cf sf nL Rt K (.sipush n, nx, κ, a, w) ce se ls st σ = (K nx ce se ls (.int (kc w) :: st) σ) := rfl
theorem st_lconst {n : Fin 2} : stp d cf sf nL Rt K (.lconst n, nx, κ, a, w) ce se ls st σ = (K nx ce se ls (.long (kl w) :: st) σ) := rfl
theorem st_ldc2_w {n : Nat} : stp d cf sf nL Rt K (.ldc2_w n, nx, κ, a, w) ce se ls st σ = (K nx ce se ls (.long (kl w) :: st) σ) := rfl
theorem st_ldc_w {n : Nat} : stp d cf sf nL Rt K (.ldc_w n, nx, κ, a, w) ce se ls st σ = (K nx ce se ls (.int (kc w) :: st) σ) := rfl
theorem st_iload {i : Nat} : stp d cf sf nL Rt K (.iload i, nx, κ, a, w) ce se ls st σ = (iI ls κ fun x => K nx ce se ls (.int x :: st) σ) := rfl
theorem st_iload_n {i : Fin 4} : stp d cf sf nL Rt K (.iload_n i, nx, κ, a, w) ce se ls st σ = (iI ls κ fun x => K nx ce se ls (.int x :: st) σ) := rfl
theorem st_lload {i : Nat} : stp d cf sf nL Rt K (.lload i, nx, κ, a, w) ce se ls st σ = (iL ls κ fun x => K nx ce se ls (.long x :: st) σ) := rfl
theorem st_lload_n {i : Fin 4} : stp d cf sf nL Rt K (.lload_n i, nx, κ, a, w) ce se ls st σ = (iL ls κ fun x => K nx ce se ls (.long x :: st) σ) := rfl
theorem st_aload {i : Nat} : stp d cf sf nL Rt K (.aload i, nx, κ, a, w) ce se ls st σ = (iR ls κ fun x => K nx ce se ls (.ref x :: st) σ) := rfl
theorem st_aload_n {i : Fin 4} : stp d cf sf nL Rt K (.aload_n i, nx, κ, a, w) ce se ls st σ = (iR ls κ fun x => K nx ce se ls (.ref x :: st) σ) := rfl
theorem st_istore {i : Nat} : stp d cf sf nL Rt K (.istore i, nx, κ, a, w) ce se ls st σ = (pI st fun x r => κ < nL ∧ K nx ce se (set1 ls κ (.int x)) (r) σ) := rfl
theorem st_istore_n {i : Fin 4} : stp d cf sf nL Rt K (.istore_n i, nx, κ, a, w) ce se ls st σ = (pI st fun x r => κ < nL ∧ K nx ce se (set1 ls κ (.int x)) (r) σ) := rfl
theorem st_lstore {i : Nat} : stp d cf sf nL Rt K (.lstore i, nx, κ, a, w) ce se ls st σ = (pL st fun x r => κ + 1 < nL ∧ K nx ce se (set2 ls κ (.long x)) (r) σ) := rfl
theorem st_lstore_n {i : Fin 4} : stp d cf sf nL Rt K (.lstore_n i, nx, κ, a, w) ce se ls st σ = (pL st fun x r => κ + 1 < nL ∧ K nx ce se (set2 ls κ (.long x)) (r) σ) := rfl
theorem st_astore {i : Nat} : stp d cf sf nL Rt K (.astore i, nx, κ, a, w) ce se ls st σ = (pR st fun x r => κ < nL ∧ K nx ce se (set1 ls κ (.ref x)) (r) σ) := rfl
theorem st_astore_n {i : Fin 4} : stp d cf sf nL Rt K (.astore_n i, nx, κ, a, w) ce se ls st σ = (pR st fun x r => κ < nL ∧ K nx ce se (set1 ls κ (.ref x)) (r) σ) := rfl
theorem st_iinc {i : Nat} {n : Int} : stp d cf sf nL Rt K (.iinc i n, nx, κ, a, w) ce se ls st σ = (iI ls κ fun x => κ < nL ∧ K nx ce se (set1 ls κ (.int (x + kc w))) (st) σ) := rfl
theorem st_dup : stp d cf sf nL Rt K (.dup, nx, κ, a, w) ce se ls st σ = (p1 st fun v r => K nx ce se ls (v :: v :: r) σ) := rfl
theorem st_pop : stp d cf sf nL Rt K (.pop, nx, κ, a, w) ce se ls st σ = (p1 st fun v r => K nx ce se ls (r) σ) := rfl
theorem st_dup2 : stp d cf sf nL Rt K (.dup2, nx, κ, a, w) ce se ls st σ = (p1 st fun v r => p1 r fun u r => K nx ce se ls (v :: u :: v :: u :: r) σ) := rfl
theorem st_ifCond {c : ClassFile.Cond} {off : Int} : stp d cf sf nL Rt K (.ifCond c off, nx, κ, a, w) ce se ls st σ = (pI st fun x r => (cnd c x 0 → K κ ce se ls (r) σ) ∧ (¬ cnd c x 0 → K nx ce se ls (r) σ)) := rfl
theorem st_if_icmp {c : ClassFile.Cond} {off : Int} : stp d cf sf nL Rt K (.if_icmp c off, nx, κ, a, w) ce se ls st σ = (pI st fun y r => pI r fun x r => (cnd c x y → K κ ce se ls (r) σ) ∧ (¬ cnd c x y → K nx ce se ls (r) σ)) := rfl
theorem st_goto {off : Int} : stp d cf sf nL Rt K (.goto off, nx, κ, a, w) ce se ls st σ = (K κ ce se ls (st) σ) := rfl
theorem st_iaload : stp d cf sf nL Rt K (.iaload, nx, κ, a, w) ce se ls st σ = (pI st fun i r => pR r fun k r => ((sh k).1 = 1 ∧ k < gN σ ∧ vp_in i (sh k).2) ∧ K nx ce se ls (.int (gI σ k i.toNatClampNeg) :: r) σ) := rfl
theorem st_laload : stp d cf sf nL Rt K (.laload, nx, κ, a, w) ce se ls st σ = (pI st fun i r => pR r fun k r => ((sh k).1 = 4 ∧ k < gN σ ∧ vp_in i (sh k).2) ∧ K nx ce se ls (.long (gL σ k i.toNatClampNeg) :: r) σ) := rfl
theorem st_aaload : stp d cf sf nL Rt K (.aaload, nx, κ, a, w) ce se ls st σ = (pI st fun i r => pR r fun k r => ((5 ≤ (sh k).1 ∧ (sh k).1 ≤ 9) ∧ k < gN σ ∧ vp_in i (sh k).2) ∧ K nx ce se ls (rfV (gR σ k i.toNatClampNeg) :: r) σ) := rfl
theorem st_i2c : stp d cf sf nL Rt K (.i2c, nx, κ, a, w) ce se ls st σ = (pI st fun x r => K nx ce se ls (.int (x.toUInt32 % 65536).toInt32 :: r) σ) := rfl
theorem st_iastore : stp d cf sf nL Rt K (.iastore, nx, κ, a, w) ce se ls st σ = (pI st fun x r => pI r fun i r => pR r fun k r => ((sh k).1 = 1 ∧ k < gN σ ∧ vp_in i (sh k).2) ∧ K nx ce se ls (r) (sI σ k i.toNatClampNeg x)) := rfl
theorem st_lastore : stp d cf sf nL Rt K (.lastore, nx, κ, a, w) ce se ls st σ = (pL st fun x r => pI r fun i r => pR r fun k r => ((sh k).1 = 4 ∧ k < gN σ ∧ vp_in i (sh k).2) ∧ K nx ce se ls (r) (sL σ k i.toNatClampNeg x)) := rfl
theorem st_aastore : stp d cf sf nL Rt K (.aastore, nx, κ, a, w) ce se ls st σ = (pR st fun v r => pI r fun i r => pR r fun k r => ((((sh k).1 = 5 ∧ sh v = (0, 5)) ∨ ((sh k).1 = 6 ∧ sh v = (0, 4)) ∨ ((sh k).1 = 7 ∧ sh v = (0, 3))) ∧ k < gN σ ∧ v < gN σ ∧ vp_in i (sh k).2) ∧ K nx ce se ls (r) (sR σ k i.toNatClampNeg (some v))) := rfl
theorem st_return_ : stp d cf sf nL Rt K (.return_, nx, κ, a, w) ce se ls st σ = ((st = [] ∧ ce = cf ∧ se = sf) ∧ Rt none σ) := rfl
theorem st_areturn : stp d cf sf nL Rt K (.areturn, nx, κ, a, w) ce se ls st σ = (pR st fun x r => (r = [] ∧ ce = cf ∧ se = sf) ∧ Rt (some (.ref x)) σ) := rfl
theorem st_new {n : Nat} : stp d cf sf nL Rt K (.new n, nx, κ, a, w) ce se ls st σ = ((sh (gN σ) = (0, κ) ∧ gN σ < 107 ∧ ce + 1 ≤ cf ∧ se + nOf κ ≤ sf) ∧ K nx (ce + 1) (se + nOf κ) ls (.ref (gN σ) :: st) (sN σ)) := rfl
theorem st_newarray {ty : ArrayType} : stp d cf sf nL Rt K (.newarray ty, nx, κ, a, w) ce se ls st σ = (pI st fun x r => (sh (gN σ) = (κ + 1, x.toNatClampNeg) ∧ ¬ x < 0 ∧ x.toNatClampNeg ≤ 1000 ∧ gN σ < 107 ∧ ce + 1 ≤ cf ∧ se + x.toNatClampNeg ≤ sf) ∧ K nx (ce + 1) (se + x.toNatClampNeg) ls (.ref (gN σ) :: r) (sN σ)) := rfl
theorem st_anewarray {n : Nat} : stp d cf sf nL Rt K (.anewarray n, nx, κ, a, w) ce se ls st σ = (pI st fun x r => (sh (gN σ) = (κ + 1, x.toNatClampNeg) ∧ ¬ x < 0 ∧ x.toNatClampNeg ≤ 1000 ∧ gN σ < 107 ∧ ce + 1 ≤ cf ∧ se + x.toNatClampNeg ≤ sf) ∧ K nx (ce + 1) (se + x.toNatClampNeg) ls (.ref (gN σ) :: r) (sN σ)) := rfl
theorem st_multianewarray {n : Nat} {k : Nat} : stp d cf sf nL Rt K (.multianewarray n k, nx, κ, a, w) ce se ls st σ = (pI st fun x r => pI r fun y r => (sh (gN σ) = (κ + 1, y.toNatClampNeg) ∧ (∀ i, i < y.toNatClampNeg → sh (gN σ + 1 + i) = (a.headD 0 + 1, x.toNatClampNeg)) ∧ ¬ y < 0 ∧ ¬ x < 0 ∧ y.toNatClampNeg ≤ 100 ∧ x.toNatClampNeg ≤ 100 ∧ gN σ + y.toNatClampNeg < 107 ∧ ce + (1 + y.toNatClampNeg) ≤ cf ∧ se + (y.toNatClampNeg + y.toNatClampNeg * x.toNatClampNeg) ≤ sf) ∧ K nx (ce + 1 + y.toNatClampNeg) (se + y.toNatClampNeg + y.toNatClampNeg * x.toNatClampNeg) ls (.ref (gN σ) :: r) (sM σ y.toNatClampNeg)) := rfl
theorem st_ldcI {n : Nat} : stp d cf sf nL Rt K (.ldc n, nx, 0, a, w) ce se ls st σ = (K nx ce se ls (.int (kc w) :: st) σ) := rfl
theorem st_ldcS {n i : Nat} : stp d cf sf nL Rt K (.ldc n, nx, i + 1, a, w) ce se ls st σ = (K nx ce se ls (.ref (1000 + i) :: st) σ) := rfl
theorem st_getI {n j : Nat} : stp d cf sf nL Rt K (.getfield n, nx, κ, [j, 0], w) ce se ls st σ = (pR st fun k r => (sh k = (0, κ) ∧ k < gN σ) ∧ K nx ce se ls (.int (gI σ k j) :: r) σ) := rfl
theorem st_getL {n j : Nat} : stp d cf sf nL Rt K (.getfield n, nx, κ, [j, 1], w) ce se ls st σ = (pR st fun k r => (sh k = (0, κ) ∧ k < gN σ) ∧ K nx ce se ls (.long (gL σ k j) :: r) σ) := rfl
theorem st_getR {n j : Nat} : stp d cf sf nL Rt K (.getfield n, nx, κ, [j, 2], w) ce se ls st σ = (pR st fun k r => (sh k = (0, κ) ∧ k < gN σ) ∧ K nx ce se ls (rfV (gR σ k j) :: r) σ) := rfl
theorem st_putI {n j : Nat} : stp d cf sf nL Rt K (.putfield n, nx, κ, [j, 0], w) ce se ls st σ = (pI st fun v r => pR r fun k r => (sh k = (0, κ) ∧ k < gN σ) ∧ K nx ce se ls (r) (sI σ k j v)) := rfl
theorem st_putL {n j : Nat} : stp d cf sf nL Rt K (.putfield n, nx, κ, [j, 1], w) ce se ls st σ = (pL st fun v r => pR r fun k r => (sh k = (0, κ) ∧ k < gN σ) ∧ K nx ce se ls (r) (sL σ k j v)) := rfl
theorem st_putR {n j : Nat} : stp d cf sf nL Rt K (.putfield n, nx, κ, [j, 2], w) ce se ls st σ = (pR st fun v r => pR r fun k r => (sh k = (0, κ) ∧ k < gN σ) ∧ K nx ce se ls (r) (sR σ k j (some v))) := rfl
theorem st_putZ {n j : Nat} : stp d cf sf nL Rt K (.putfield n, nx, κ, [j, 3], w) ce se ls st σ = (pI st fun v r => pR r fun k r => (sh k = (0, κ) ∧ k < gN σ ∧ (v = 0 ∨ v = 1)) ∧ K nx ce se ls (r) (sI σ k j v)) := rfl
theorem st_bastoreB : stp d cf sf nL Rt K (.bastore, nx, 0, a, w) ce se ls st σ = (pI st fun x r => pI r fun i r => pR r fun k r => ((sh k).1 = 2 ∧ k < gN σ ∧ vp_in i (sh k).2) ∧ K nx ce se ls (r) (sI σ k i.toNatClampNeg x.toInt8.toInt32)) := rfl
theorem st_bastoreZ : stp d cf sf nL Rt K (.bastore, nx, 1, a, w) ce se ls st σ = (pI st fun x r => pI r fun i r => pR r fun k r => ((sh k).1 = 3 ∧ k < gN σ ∧ vp_in i (sh k).2 ∧ (x = 0 ∨ x = 1)) ∧ K nx ce se ls (r) (sI σ k i.toNatClampNeg x)) := rfl
theorem st_sval {n : Nat} : stp d cf sf nL Rt K (.getfield n, nx, κ, [0], w) ce se ls st σ = (pR st fun k r => (1000 ≤ k ∧ k < 1019) ∧ K nx ce se ls (.ref (k + 100) :: r) σ) := rfl
theorem st_scod {n : Nat} : stp d cf sf nL Rt K (.getfield n, nx, κ, [1], w) ce se ls st σ = (pR st fun k r => (1000 ≤ k ∧ k < 1019) ∧ K nx ce se ls (.int 0 :: r) σ) := rfl
theorem st_baload : stp d cf sf nL Rt K (.baload, nx, 0, a, w) ce se ls st σ = (pI st fun i r => pR r fun k r => (((sh k).1 = 2 ∨ (sh k).1 = 3) ∧ k < gN σ ∧ vp_in i (sh k).2) ∧ K nx ce se ls (.int (gI σ k i.toNatClampNeg) :: r) σ) := rfl
theorem st_baloadS : stp d cf sf nL Rt K (.baload, nx, 1, a, w) ce se ls st σ = (pI st fun i r => pR r fun k r => ((1100 ≤ k ∧ k < 1119) ∧ vp_in i (slen.getD (k - 1100) 0)) ∧ K nx ce se ls (.int ((sbyt.getD (k - 1100) []).getD i.toNatClampNeg 0) :: r) σ) := rfl
theorem st_alen : stp d cf sf nL Rt K (.arraylength, nx, 0, a, w) ce se ls st σ = (pR st fun k r => ((1 ≤ (sh k).1 ∧ (sh k).1 ≤ 9) ∧ k < gN σ) ∧ K nx ce se ls (.int (Int32.ofNat (sh k).2) :: r) σ) := rfl
theorem st_alenS : stp d cf sf nL Rt K (.arraylength, nx, 1, a, w) ce se ls st σ = (pR st fun k r => (1100 ≤ k ∧ k < 1119) ∧ K nx ce se ls (.int (Int32.ofNat (slen.getD (k - 1100) 0)) :: r) σ) := rfl
theorem st_gets1 {n : Nat} : stp d cf sf nL Rt K (.getstatic n, nx, 1, a, w) ce se ls st σ = K nx ce se ls (.int 1 :: st) σ := rfl
theorem st_getsF {n : Nat} : stp d cf sf nL Rt K (.getstatic n, nx, 0, a, w) ce se ls st σ = (K nx ce se ls (.null :: st) σ ∧ K nx ce se ls (.ref 1999 :: st) σ) := rfl
theorem st_cret : stp d cf sf nL Rt K (.ireturn, nx, 2, a, w) ce se ls st σ = (pI st fun x r => (r = [] ∧ ce = cf ∧ se = sf ∧ narrow .char (.int x) = .int x) ∧ Rt (some (.int x)) σ) := rfl
theorem st_bret : stp d cf sf nL Rt K (.ireturn, nx, 3, a, w) ce se ls st σ = (pI st fun x r => (r = [] ∧ ce = cf ∧ se = sf ∧ narrow .byte (.int x) = .int x) ∧ Rt (some (.int x)) σ) := rfl
theorem st_invVS {n na ml : Nat} {y : MethodName} {b : ByteArray} {rt : Option FieldType} : stp d cf sf nL Rt K (.invokevirtual n, nx, κ, [na], .code y b ml rt) ce se ls st σ = (0 < d ∧ cl st (na + 1) fun as r => (rcvS as ∧ cats r ≤ 8 ∧ ce ≤ cf ∧ se ≤ sf) ∧ Con (d - 1) (y, b, ml, rt) 0 0 as σ (fun v σ' => K nx ce se ls (v.toList ++ r) σ')) := rfl
theorem rcvS_c {k : Nat} : rcvS (.ref k :: st) = (1000 ≤ k ∧ k < 1019) := rfl
theorem p1_n {f : Value → List Value → Prop} : p1 (.null :: st) f = f .null st := by show (Value.category .null = 1 ∧ _) = _; exact propext ⟨fun h => h.2, fun h => ⟨rfl, h⟩⟩
theorem st_iret : stp d cf sf nL Rt K (.ireturn, nx, 0, a, w) ce se ls st σ = (pI st fun x r => (r = [] ∧ ce = cf ∧ se = sf) ∧ Rt (some (.int x)) σ) := rfl
theorem st_zret : stp d cf sf nL Rt K (.ireturn, nx, 1, a, w) ce se ls st σ = (pI st fun x r => (r = [] ∧ ce = cf ∧ se = sf ∧ (x = 0 ∨ x = 1)) ∧ Rt (some (.int x)) σ) := rfl
theorem st_invV {n na ci mc ms ml : Nat} {y : MethodName} {b : ByteArray} {rt : Option FieldType} : stp d cf sf nL Rt K (.invokevirtual n, nx, κ, [na, ci, mc, ms], .code y b ml rt) ce se ls st σ = (0 < d ∧ cl st (na + 1) fun as r => (rcv ci σ as ∧ cats r ≤ 8 ∧ ce + mc ≤ cf ∧ se + ms ≤ sf) ∧ Con (d - 1) (y, b, ml, rt) mc ms as σ (fun v σ' => K nx (ce + mc) (se + ms) ls (v.toList ++ r) σ')) := rfl
theorem st_invS {n na mc ms ml : Nat} {y : MethodName} {b : ByteArray} {rt : Option FieldType} : stp d cf sf nL Rt K (.invokestatic n, nx, 0, [na, mc, ms], .code y b ml rt) ce se ls st σ = (0 < d ∧ cl st na fun as r => (cats r ≤ 8 ∧ ce + mc ≤ cf ∧ se + ms ≤ sf) ∧ Con (d - 1) (y, b, ml, rt) mc ms as σ (fun v σ' => K nx (ce + mc) (se + ms) ls (v.toList ++ r) σ')) := rfl
theorem st_min {n : Nat} : stp d cf sf nL Rt K (.invokestatic n, nx, 1, a, w) ce se ls st σ = (0 < d ∧ pI st fun y r => pI r fun x r => (cats r ≤ 8 ∧ ce ≤ cf ∧ se ≤ sf) ∧ K nx ce se ls (.int (if y < x then y else x) :: r) σ) := rfl
theorem st_max {n : Nat} : stp d cf sf nL Rt K (.invokestatic n, nx, 2, a, w) ce se ls st σ = (0 < d ∧ pI st fun y r => pI r fun x r => (cats r ≤ 8 ∧ ce ≤ cf ∧ se ≤ sf) ∧ K nx ce se ls (.int (if x < y then y else x) :: r) σ) := rfl
theorem st_invI {n na mc ms ml : Nat} {y : MethodName} {b : ByteArray} {rt : Option FieldType} : stp d cf sf nL Rt K (.invokespecial n, nx, 0, [na, mc, ms], .code y b ml rt) ce se ls st σ = (0 < d ∧ cl st (na + 1) fun as r => (isRefA as ∧ cats r ≤ 8 ∧ ce + mc ≤ cf ∧ se + ms ≤ sf) ∧ Con (d - 1) (y, b, ml, rt) mc ms as σ (fun v σ' => K nx (ce + mc) (se + ms) ls (v.toList ++ r) σ')) := rfl
theorem st_obj {n : Nat} : stp d cf sf nL Rt K (.invokespecial n, nx, 1, a, w) ce se ls st σ = (0 < d ∧ pR st fun _ r => cats r ≤ 8 ∧ K nx ce se ls (r) σ) := rfl
theorem st_table {dflt lo hi : Int} {offs : Array Int} : stp d cf sf nL Rt K (.tableswitch dflt lo hi offs, nx, κ, a, w) ce se ls st σ = (pI st fun x r => sw x.toInt (fun t => K t ce se ls (r) σ) lo a ∧ (x.toInt < lo ∨ hi < x.toInt → K κ ce se ls (r) σ)) := rfl
theorem st_lookup {dflt : Int} {ps : Array (Int × Int)} : stp d cf sf nL Rt K (.lookupswitch dflt ps, nx, κ, a, w) ce se ls st σ = (pI st fun x r => swp x.toInt (fun t => K t ce se ls (r) σ) κ ps.toList a) := rfl
theorem pI_c {x : Int32} {f : Int32 → List Value → Prop} : pI (.int x :: st) f = f x st := rfl
theorem pL_c {x : Int64} {f : Int64 → List Value → Prop} : pL (.long x :: st) f = f x st := rfl
theorem pR_c {x : Nat} {f : Nat → List Value → Prop} : pR (.ref x :: st) f = f x st := rfl
theorem p1_i {x : Int32} {f : Value → List Value → Prop} : p1 (.int x :: st) f = f (.int x) st := by show (Value.category (.int x) = 1 ∧ _) = _; exact propext ⟨fun h => h.2, fun h => ⟨rfl, h⟩⟩
theorem p1_r {x : Nat} {f : Value → List Value → Prop} : p1 (.ref x :: st) f = f (.ref x) st := by show (Value.category (.ref x) = 1 ∧ _) = _; exact propext ⟨fun h => h.2, fun h => ⟨rfl, h⟩⟩
theorem iI_0 {x : Int32} {f : Int32 → Prop} : iI (.int x :: ls) 0 f = f x := rfl
theorem iI_s {v : Value} {i : Nat} {f : Int32 → Prop} : iI (v :: ls) (i + 1) f = iI ls i f := rfl
theorem iL_0 {x : Int64} {f : Int64 → Prop} : iL (.long x :: ls) 0 f = f x := rfl
theorem iL_s {v : Value} {i : Nat} {f : Int64 → Prop} : iL (v :: ls) (i + 1) f = iL ls i f := rfl
theorem iR_0 {x : Nat} {f : Nat → Prop} : iR (.ref x :: ls) 0 f = f x := rfl
theorem iR_s {v : Value} {i : Nat} {f : Nat → Prop} : iR (v :: ls) (i + 1) f = iR ls i f := rfl
theorem rfV_s {k : Nat} : rfV (some k) = .ref k := rfl
theorem kc_c {s : String} {i : Nat} {v : Int32} : kc (.constant s i v) = v := rfl
theorem kl_c {s : String} {i : Nat} {v : Int64} : kl (.constantLong s i v) = v := rfl
theorem cats_0 : cats [] = 0 := rfl
theorem cats_i {x : Int32} : cats (.int x :: st) = cats st + 1 := by show 1 + cats st = _; omega
theorem cats_l {x : Int64} : cats (.long x :: st) = cats st + 2 := by show 2 + cats st = _; omega
theorem cats_r {x : Nat} : cats (.ref x :: st) = cats st + 1 := by show 1 + cats st = _; omega
theorem rcv_c {k ci : Nat} : rcv ci σ (.ref k :: st) = (sh k = (0, ci) ∧ k < gN σ) := rfl
theorem isRefA_c {k : Nat} : isRefA (.ref k :: st) = True := rfl
theorem cl_1 {v : Value} {f : List Value → List Value → Prop} : cl (v :: st) 1 f = f [v] st := by show (1 ≤ (v :: st).length ∧ _) = _; exact propext ⟨fun h => h.2, fun h => ⟨by simp, h⟩⟩
theorem cl_2 {v u : Value} {f : List Value → List Value → Prop} : cl (v :: u :: st) 2 f = f [u, v] st := by show (2 ≤ (v :: u :: st).length ∧ _) = _; exact propext ⟨fun h => h.2, fun h => ⟨by simp, h⟩⟩
theorem cl_0 {f : List Value → List Value → Prop} : cl st 0 f = f [] st := by show (0 ≤ st.length ∧ _) = _; exact propext ⟨fun h => h.2, fun h => ⟨by simp, h⟩⟩
theorem cl_3 {v u x : Value} {f : List Value → List Value → Prop} : cl (v :: u :: x :: st) 3 f = f [x, u, v] st := by show (3 ≤ (v :: u :: x :: st).length ∧ _) = _; exact propext ⟨fun h => h.2, fun h => ⟨by simp, h⟩⟩
theorem cl_4 {v u x y : Value} {f : List Value → List Value → Prop} : cl (v :: u :: x :: y :: st) 4 f = f [y, x, u, v] st := by show (4 ≤ (v :: u :: x :: y :: st).length ∧ _) = _; exact propext ⟨fun h => h.2, fun h => ⟨by simp, h⟩⟩
theorem cl_5 {v u x y z : Value} {f : List Value → List Value → Prop} : cl (v :: u :: x :: y :: z :: st) 5 f = f [z, y, x, u, v] st := by show (5 ≤ (v :: u :: x :: y :: z :: st).length ∧ _) = _; exact propext ⟨fun h => h.2, fun h => ⟨by simp, h⟩⟩
theorem cl_6 {v u x y z t : Value} {f : List Value → List Value → Prop} : cl (v :: u :: x :: y :: z :: t :: st) 6 f = f [t, z, y, x, u, v] st := by show (6 ≤ (v :: u :: x :: y :: z :: t :: st).length ∧ _) = _; exact propext ⟨fun h => h.2, fun h => ⟨by simp, h⟩⟩
theorem cl_7 {v u x y z t s : Value} {f : List Value → List Value → Prop} : cl (v :: u :: x :: y :: z :: t :: s :: st) 7 f = f [s, t, z, y, x, u, v] st := by show (7 ≤ (v :: u :: x :: y :: z :: t :: s :: st).length ∧ _) = _; exact propext ⟨fun h => h.2, fun h => ⟨by simp, h⟩⟩
theorem set1_0 {v u : Value} : set1 (v :: ls) 0 u = u :: ls := rfl
theorem set1_1i {x : Int32} {v u : Value} : set1 (.int x :: v :: ls) 1 u = .int x :: u :: ls := rfl
theorem set1_1r {x : Nat} {v u : Value} : set1 (.ref x :: v :: ls) 1 u = .ref x :: u :: ls := rfl
theorem set1_1n {v u : Value} : set1 (.null :: v :: ls) 1 u = .null :: u :: ls := rfl
theorem clr_s (x : Value) (ls : List Value) (i : Nat) : clr (x :: ls) (i + 2) = x :: clr ls (i + 1) := by
  show (match (x :: ls)[i + 1]? with
    | some v => if v.category = 2 then (x :: ls).set (i + 1) .null else (x :: ls)
    | none => (x :: ls)) = x :: (match ls[i]? with
    | some v => if v.category = 2 then ls.set i .null else ls
    | none => ls)
  rw [List.getElem?_cons_succ]
  cases ls[i]? with
  | none => rfl
  | some v =>
    show (if v.category = 2 then (x :: ls).set (i + 1) .null else (x :: ls)) = x :: (if v.category = 2 then ls.set i .null else ls)
    split <;> rfl
theorem set1_s {x u : Value} {i : Nat} : set1 (x :: ls) (i + 2) u = x :: set1 ls (i + 1) u := by
  unfold set1
  rw [clr_s]
  rfl
theorem set2_s {x u : Value} {i : Nat} : set2 (x :: ls) (i + 2) u = x :: set2 ls (i + 1) u := by
  unfold set2
  rw [clr_s]
  rfl
theorem set2_1i {x : Int32} {v v2 u : Value} : set2 (.int x :: v :: v2 :: ls) 1 u = .int x :: u :: .null :: ls := rfl
theorem set2_1r {x : Nat} {v v2 u : Value} : set2 (.ref x :: v :: v2 :: ls) 1 u = .ref x :: u :: .null :: ls := rfl
theorem set2_1n {v v2 u : Value} : set2 (.null :: v :: v2 :: ls) 1 u = .null :: u :: .null :: ls := rfl
theorem toL_s {v : Value} : (some v).toList ++ st = v :: st := rfl
theorem toL_n : (none : Option Value).toList ++ st = st := rfl
end EVAL
