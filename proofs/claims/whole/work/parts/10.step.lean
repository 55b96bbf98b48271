/-! the instruction's predicate transformer, the check of a table against bytes and words, and that it is sound -/
def kc : Cond → Int32
  | .constant _ _ v => v
  | _ => 0
def kl : Cond → Int64
  | .constantLong _ _ v => v
  | _ => 0
def cnd (c : ClassFile.Cond) (x y : Int32) : Prop := match c with
  | .eq => x = y
  | .ne => ¬ x = y
  | .lt => x < y
  | .ge => y ≤ x
  | .gt => y < x
  | .le => x ≤ y
def fmt (σ : St) (k j tag : Nat) : Value := match tag with
  | 0 => .int (gI σ k j)
  | 1 => .long (gL σ k j)
  | _ => rfV (gR σ k j)
def put (tag j ci : Nat) (st : List Value) (σ : St) (f : List Value → St → Prop) : Prop := match tag with
  | 0 => pI st fun v r => pR r fun k r => (sh k = (0, ci) ∧ k < gN σ) ∧ f r (sI σ k j v)
  | 1 => pL st fun v r => pR r fun k r => (sh k = (0, ci) ∧ k < gN σ) ∧ f r (sL σ k j v)
  | 2 => pR st fun v r => pR r fun k r => (sh k = (0, ci) ∧ k < gN σ) ∧ f r (sR σ k j (some v))
  | _ => pI st fun v r => pR r fun k r => (sh k = (0, ci) ∧ k < gN σ ∧ (v = 0 ∨ v = 1)) ∧ f r (sI σ k j v)
def swp (x : Int) (f : Nat → Prop) (D : Nat) : List (Int × Int) → List Nat → Prop
  | p :: ps, t :: ts => (x = p.1 → f t) ∧ (x ≠ p.1 → swp x f D ps ts)
  | _, _ => f D
def isRefA (as : List Value) : Prop := match as with
  | .ref _ :: _ => True
  | _ => False
def stp (d cf sf nL : Nat) (Rt : Option Value → St → Prop) (K : Nat → Nat → Nat → List Value → List Value → St → Prop) (e : Ent) (ce se : Nat) (ls st : List Value) (σ : St) : Prop := match e with
  | (ins, nx, κ, a, w) => match ins with
  | .iadd => pI st fun y r => pI r fun x r => K nx ce se ls (.int (x + y) :: r) σ
  | .isub => pI st fun y r => pI r fun x r => K nx ce se ls (.int (x - y) :: r) σ
  | .imul => pI st fun y r => pI r fun x r => K nx ce se ls (.int (x * y) :: r) σ
  | .iand => pI st fun y r => pI r fun x r => K nx ce se ls (.int (x &&& y) :: r) σ
  | .ior => pI st fun y r => pI r fun x r => K nx ce se ls (.int (x ||| y) :: r) σ
  | .ishl => pI st fun y r => pI r fun x r => K nx ce se ls (.int (x <<< (y &&& 31)) :: r) σ
  | .ishr => pI st fun y r => pI r fun x r => K nx ce se ls (.int (x >>> (y &&& 31)) :: r) σ
  | .idiv => pI st fun y r => pI r fun x r => ¬ y = 0 ∧ K nx ce se ls (.int (x / y) :: r) σ
  | .irem => pI st fun y r => pI r fun x r => ¬ y = 0 ∧ K nx ce se ls (.int (x - x / y * y) :: r) σ
  | .ladd => pL st fun y r => pL r fun x r => K nx ce se ls (.long (x + y) :: r) σ
  | .lsub => pL st fun y r => pL r fun x r => K nx ce se ls (.long (x - y) :: r) σ
  | .lmul => pL st fun y r => pL r fun x r => K nx ce se ls (.long (x * y) :: r) σ
  | .lor => pL st fun y r => pL r fun x r => K nx ce se ls (.long (x ||| y) :: r) σ
  | .land => pL st fun y r => pL r fun x r => K nx ce se ls (.long (x &&& y) :: r) σ
  | .ldiv => pL st fun y r => pL r fun x r => ¬ y = 0 ∧ K nx ce se ls (.long (x / y) :: r) σ
  | .lshl => pI st fun y r => pL r fun x r => K nx ce se ls (.long (x <<< (y.toInt64 &&& 63)) :: r) σ
  | .lcmp => pL st fun y r => pL r fun x r => K nx ce se ls (.int (lg_cmp x y) :: r) σ
  | .i2l => pI st fun x r => K nx ce se ls (.long x.toInt64 :: r) σ
  | .i2b => pI st fun x r => K nx ce se ls (.int x.toInt8.toInt32 :: r) σ
  | .l2i => pL st fun x r => K nx ce se ls (.int x.toInt32 :: r) σ
  | .iconst n => K nx ce se ls (.int (kc w) :: st) σ
  | .bipush n => K nx ce se ls (.int (kc w) :: st) σ
  | .sipush n => K nx ce se ls (.int (kc w) :: st) σ
  | .lconst n => K nx ce se ls (.long (kl w) :: st) σ
  | .ldc2_w n => K nx ce se ls (.long (kl w) :: st) σ
  | .ldc_w n => K nx ce se ls (.int (kc w) :: st) σ
  | .ldc n => match κ with
    | 0 => K nx ce se ls (.int (kc w) :: st) σ
    | i + 1 => K nx ce se ls (.ref (1000 + i) :: st) σ
  | .iload i => iI ls κ fun x => K nx ce se ls (.int x :: st) σ
  | .iload_n i => iI ls κ fun x => K nx ce se ls (.int x :: st) σ
  | .lload i => iL ls κ fun x => K nx ce se ls (.long x :: st) σ
  | .lload_n i => iL ls κ fun x => K nx ce se ls (.long x :: st) σ
  | .aload i => iR ls κ fun x => K nx ce se ls (.ref x :: st) σ
  | .aload_n i => iR ls κ fun x => K nx ce se ls (.ref x :: st) σ
  | .istore i => pI st fun x r => κ < nL ∧ K nx ce se (set1 ls κ (.int x)) (r) σ
  | .istore_n i => pI st fun x r => κ < nL ∧ K nx ce se (set1 ls κ (.int x)) (r) σ
  | .lstore i => pL st fun x r => κ + 1 < nL ∧ K nx ce se (set2 ls κ (.long x)) (r) σ
  | .lstore_n i => pL st fun x r => κ + 1 < nL ∧ K nx ce se (set2 ls κ (.long x)) (r) σ
  | .astore i => pR st fun x r => κ < nL ∧ K nx ce se (set1 ls κ (.ref x)) (r) σ
  | .astore_n i => pR st fun x r => κ < nL ∧ K nx ce se (set1 ls κ (.ref x)) (r) σ
  | .iinc i n => iI ls κ fun x => κ < nL ∧ K nx ce se (set1 ls κ (.int (x + kc w))) (st) σ
  | .dup => p1 st fun v r => K nx ce se ls (v :: v :: r) σ
  | .pop => p1 st fun v r => K nx ce se ls (r) σ
  | .dup2 => p1 st fun v r => p1 r fun u r => K nx ce se ls (v :: u :: v :: u :: r) σ
  | .ifCond c off => pI st fun x r => (cnd c x 0 → K κ ce se ls (r) σ) ∧ (¬ cnd c x 0 → K nx ce se ls (r) σ)
  | .if_icmp c off => pI st fun y r => pI r fun x r => (cnd c x y → K κ ce se ls (r) σ) ∧ (¬ cnd c x y → K nx ce se ls (r) σ)
  | .goto off => K κ ce se ls (st) σ
  | .getfield n => match a with
    | [j, tag] => pR st fun k r => (sh k = (0, κ) ∧ k < gN σ) ∧ K nx ce se ls (fmt σ k j tag :: r) σ
    | [0] => pR st fun k r => (1000 ≤ k ∧ k < 1019) ∧ K nx ce se ls (.ref (k + 100) :: r) σ
    | [1] => pR st fun k r => (1000 ≤ k ∧ k < 1019) ∧ K nx ce se ls (.int 0 :: r) σ
    | _ => False
  | .putfield n => match a with
    | [j, tag] => put tag j κ st σ fun r σ' => K nx ce se ls (r) σ'
    | _ => False
  | .iaload => pI st fun i r => pR r fun k r => ((sh k).1 = 1 ∧ k < gN σ ∧ vp_in i (sh k).2) ∧ K nx ce se ls (.int (gI σ k i.toNatClampNeg) :: r) σ
  | .laload => pI st fun i r => pR r fun k r => ((sh k).1 = 4 ∧ k < gN σ ∧ vp_in i (sh k).2) ∧ K nx ce se ls (.long (gL σ k i.toNatClampNeg) :: r) σ
  | .baload => match κ with
    | 0 => pI st fun i r => pR r fun k r => (((sh k).1 = 2 ∨ (sh k).1 = 3) ∧ k < gN σ ∧ vp_in i (sh k).2) ∧ K nx ce se ls (.int (gI σ k i.toNatClampNeg) :: r) σ
    | _ => pI st fun i r => pR r fun k r => ((1100 ≤ k ∧ k < 1119) ∧ vp_in i (slen.getD (k - 1100) 0)) ∧ K nx ce se ls (.int ((sbyt.getD (k - 1100) []).getD i.toNatClampNeg 0) :: r) σ
  | .aaload => pI st fun i r => pR r fun k r => ((5 ≤ (sh k).1 ∧ (sh k).1 ≤ 9) ∧ k < gN σ ∧ vp_in i (sh k).2) ∧ K nx ce se ls (rfV (gR σ k i.toNatClampNeg) :: r) σ
  | .arraylength => match κ with
    | 0 => pR st fun k r => ((1 ≤ (sh k).1 ∧ (sh k).1 ≤ 9) ∧ k < gN σ) ∧ K nx ce se ls (.int (Int32.ofNat (sh k).2) :: r) σ
    | _ => pR st fun k r => (1100 ≤ k ∧ k < 1119) ∧ K nx ce se ls (.int (Int32.ofNat (slen.getD (k - 1100) 0)) :: r) σ
  | .i2c => pI st fun x r => K nx ce se ls (.int (x.toUInt32 % 65536).toInt32 :: r) σ
  | .getstatic n => match κ with
    | 0 => K nx ce se ls (.null :: st) σ ∧ K nx ce se ls (.ref 1999 :: st) σ
    | i + 1 => match stT[i]? with
      | some x => K nx ce se ls (.int x.2.2.2 :: st) σ
      | none => False
  | .iastore => pI st fun x r => pI r fun i r => pR r fun k r => ((sh k).1 = 1 ∧ k < gN σ ∧ vp_in i (sh k).2) ∧ K nx ce se ls (r) (sI σ k i.toNatClampNeg x)
  | .lastore => pL st fun x r => pI r fun i r => pR r fun k r => ((sh k).1 = 4 ∧ k < gN σ ∧ vp_in i (sh k).2) ∧ K nx ce se ls (r) (sL σ k i.toNatClampNeg x)
  | .bastore => match κ with
    | 0 => pI st fun x r => pI r fun i r => pR r fun k r => ((sh k).1 = 2 ∧ k < gN σ ∧ vp_in i (sh k).2) ∧ K nx ce se ls (r) (sI σ k i.toNatClampNeg x.toInt8.toInt32)
    | _ => pI st fun x r => pI r fun i r => pR r fun k r => ((sh k).1 = 3 ∧ k < gN σ ∧ vp_in i (sh k).2 ∧ (x = 0 ∨ x = 1)) ∧ K nx ce se ls (r) (sI σ k i.toNatClampNeg x)
  | .aastore => pR st fun v r => pI r fun i r => pR r fun k r => ((((sh k).1 = 5 ∧ sh v = (0, 5)) ∨ ((sh k).1 = 6 ∧ sh v = (0, 4)) ∨ ((sh k).1 = 7 ∧ sh v = (0, 3))) ∧ k < gN σ ∧ v < gN σ ∧ vp_in i (sh k).2) ∧ K nx ce se ls (r) (sR σ k i.toNatClampNeg (some v))
  | .ireturn => match κ with
    | 0 => pI st fun x r => (r = [] ∧ ce = cf ∧ se = sf) ∧ Rt (some (.int x)) σ
    | 1 => pI st fun x r => (r = [] ∧ ce = cf ∧ se = sf ∧ (x = 0 ∨ x = 1)) ∧ Rt (some (.int x)) σ
    | 2 => pI st fun x r => (r = [] ∧ ce = cf ∧ se = sf ∧ narrow .char (.int x) = .int x) ∧ Rt (some (.int x)) σ
    | _ => pI st fun x r => (r = [] ∧ ce = cf ∧ se = sf ∧ narrow .byte (.int x) = .int x) ∧ Rt (some (.int x)) σ
  | .return_ => (st = [] ∧ ce = cf ∧ se = sf) ∧ Rt none σ
  | .areturn => pR st fun x r => (r = [] ∧ ce = cf ∧ se = sf) ∧ Rt (some (.ref x)) σ
  | .invokevirtual n => match a, w with
    | [na, ci, mc, ms], .code y b ml rt => 0 < d ∧ cl st (na + 1) fun as r => (rcv ci σ as ∧ cats r ≤ 8 ∧ ce + mc ≤ cf ∧ se + ms ≤ sf) ∧ Con (d - 1) (y, b, ml, rt) mc ms as σ (fun v σ' => K nx (ce + mc) (se + ms) ls (v.toList ++ r) σ')
    | [na], .code y b ml rt => 0 < d ∧ cl st (na + 1) fun as r => (rcvS as ∧ cats r ≤ 8 ∧ ce ≤ cf ∧ se ≤ sf) ∧ Con (d - 1) (y, b, ml, rt) 0 0 as σ (fun v σ' => K nx ce se ls (v.toList ++ r) σ')
    | _, _ => False
  | .invokestatic n => match κ with
    | 0 => (match a, w with
      | [na, mc, ms], .code y b ml rt => 0 < d ∧ cl st na fun as r => (cats r ≤ 8 ∧ ce + mc ≤ cf ∧ se + ms ≤ sf) ∧ Con (d - 1) (y, b, ml, rt) mc ms as σ (fun v σ' => K nx (ce + mc) (se + ms) ls (v.toList ++ r) σ')
      | _, _ => False)
    | 1 => 0 < d ∧ pI st fun y r => pI r fun x r => (cats r ≤ 8 ∧ ce ≤ cf ∧ se ≤ sf) ∧ K nx ce se ls (.int (if y < x then y else x) :: r) σ
    | _ => 0 < d ∧ pI st fun y r => pI r fun x r => (cats r ≤ 8 ∧ ce ≤ cf ∧ se ≤ sf) ∧ K nx ce se ls (.int (if x < y then y else x) :: r) σ
  | .invokespecial n => match κ with
    | 0 => (match a, w with
      | [na, mc, ms], .code y b ml rt => 0 < d ∧ cl st (na + 1) fun as r => (isRefA as ∧ cats r ≤ 8 ∧ ce + mc ≤ cf ∧ se + ms ≤ sf) ∧ Con (d - 1) (y, b, ml, rt) mc ms as σ (fun v σ' => K nx (ce + mc) (se + ms) ls (v.toList ++ r) σ')
      | _, _ => False)
    | _ => 0 < d ∧ pR st fun _ r => cats r ≤ 8 ∧ K nx ce se ls (r) σ
  | .new n => (sh (gN σ) = (0, κ) ∧ gN σ < 107 ∧ ce + 1 ≤ cf ∧ se + nOf κ ≤ sf) ∧ K nx (ce + 1) (se + nOf κ) ls (.ref (gN σ) :: st) (sN σ)
  | .newarray ty => pI st fun x r => (sh (gN σ) = (κ + 1, x.toNatClampNeg) ∧ ¬ x < 0 ∧ x.toNatClampNeg ≤ 1000 ∧ gN σ < 107 ∧ ce + 1 ≤ cf ∧ se + x.toNatClampNeg ≤ sf) ∧ K nx (ce + 1) (se + x.toNatClampNeg) ls (.ref (gN σ) :: r) (sN σ)
  | .anewarray n => pI st fun x r => (sh (gN σ) = (κ + 1, x.toNatClampNeg) ∧ ¬ x < 0 ∧ x.toNatClampNeg ≤ 1000 ∧ gN σ < 107 ∧ ce + 1 ≤ cf ∧ se + x.toNatClampNeg ≤ sf) ∧ K nx (ce + 1) (se + x.toNatClampNeg) ls (.ref (gN σ) :: r) (sN σ)
  | .multianewarray n k => pI st fun x r => pI r fun y r => (sh (gN σ) = (κ + 1, y.toNatClampNeg) ∧ (∀ i, i < y.toNatClampNeg → sh (gN σ + 1 + i) = (a.headD 0 + 1, x.toNatClampNeg)) ∧ ¬ y < 0 ∧ ¬ x < 0 ∧ y.toNatClampNeg ≤ 100 ∧ x.toNatClampNeg ≤ 100 ∧ gN σ + y.toNatClampNeg < 107 ∧ ce + (1 + y.toNatClampNeg) ≤ cf ∧ se + (y.toNatClampNeg + y.toNatClampNeg * x.toNatClampNeg) ≤ sf) ∧ K nx (ce + 1 + y.toNatClampNeg) (se + y.toNatClampNeg + y.toNatClampNeg * x.toNatClampNeg) ls (.ref (gN σ) :: r) (sM σ y.toNatClampNeg)
  | .tableswitch dflt lo hi offs => pI st fun x r => sw x.toInt (fun t => K t ce se ls (r) σ) lo a ∧ (x.toInt < lo ∨ hi < x.toInt → K κ ce se ls (r) σ)
  | .lookupswitch dflt ps => pI st fun x r => swp x.toInt (fun t => K t ce se ls (r) σ) κ ps.toList a
  | _ => False
def ln : Instr → Nat
  | .bipush _ => 2
  | .ldc _ => 2
  | .iload _ => 2
  | .lload _ => 2
  | .aload _ => 2
  | .istore _ => 2
  | .lstore _ => 2
  | .astore _ => 2
  | .newarray _ => 2
  | .sipush _ => 3
  | .ldc_w _ => 3
  | .ldc2_w _ => 3
  | .iinc _ _ => 3
  | .ifCond _ _ => 3
  | .if_icmp _ _ => 3
  | .goto _ => 3
  | .getfield _ => 3
  | .getstatic _ => 3
  | .putfield _ => 3
  | .invokevirtual _ => 3
  | .invokespecial _ => 3
  | .invokestatic _ => 3
  | .new _ => 3
  | .anewarray _ => 3
  | .multianewarray _ _ => 4
  | _ => 1
def tgG : FieldType → Nat
  | .int => 0
  | .boolean => 0
  | .long => 1
  | .object _ => 2
  | .array _ => 2
  | _ => 9
def tgP : FieldType → Nat
  | .int => 0
  | .long => 1
  | .object _ => 2
  | .array _ => 2
  | .boolean => 3
  | _ => 9
/-- a word of the tables, found by its place -/
def mW (hl : List Nat) (w : Cond) : Bool := goodWord w && hl.any fun i => decide (lw_tbl[i]? = some w)
def mN (hl : List Nat) (w : Cond) : Bool := (match w with
  | .methodLinkNest _ _ _ _ => true
  | .arrayOver _ => true
  | _ => false) && hl.any fun i => decide (lw_tbl[i]? = some w)
def sdLdc (hl : List Nat) (q : MI) (n κ : Nat) (w : Cond) : Bool := match κ with
  | 0 => decide (mW hl (.constant q.1.cls n (kc w)) = true)
  | i + 1 => match strT[i]? with
    | some t => decide (t.1 = q.1.cls ∧ t.2.1 = n)
    | none => false
def sdGet (hl : List Nat) (q : MI) (n κ : Nat) (a : List Nat) : Bool := match a, vwCl[κ]? with
  | [j, tag], some r => decide (j < r.2.2 ∧ mW hl (.fieldLink q.1.cls n (r.2.1 j).1 (r.2.1 j).2.1 (r.2.1 j).2.2.1) = true ∧ tgG (tyOf κ j) = tag ∧ tag < 9)
  | [0], _ => decide (mW hl (.fieldLink q.1.cls n "java/lang/String" "value" "[B") = true)
  | [1], _ => decide (mW hl (.fieldLink q.1.cls n "java/lang/String" "coder" "B") = true)
  | _, _ => false
def sdGs (hl : List Nat) (q : MI) (n κ : Nat) : Bool := match κ with
  | 0 => decide (mW hl (.fieldLink q.1.cls n "jdk/internal/util/Preconditions" "SIOOBE_FORMATTER" "Ljava/util/function/BiFunction;") = true)
  | i + 1 => match stT[i]? with
    | some x => decide (mW hl (.fieldLink q.1.cls n x.1 x.2.1 x.2.2.1) = true)
    | none => false
def sdPut (hl : List Nat) (q : MI) (n κ : Nat) (a : List Nat) : Bool := match a, vwCl[κ]? with
  | [j, tag], some r => decide (j < r.2.2 ∧ mW hl (.fieldLink q.1.cls n (r.2.1 j).1 (r.2.1 j).2.1 (r.2.1 j).2.2.1) = true ∧ tgP (tyOf κ j) = tag ∧ tag < 4 ∧ ((r.2.1 j).2.2.2 = false ∨ ((r.2.1 j).2.2.2 = true ∧ q.1.name = "<init>" ∧ (r.2.1 j).1 = q.1.cls)))
  | _, _ => false
def sdIv (hl : List Nat) (q : MI) (n : Nat) (a : List Nat) (w : Cond) : Bool := match a, w with
  | [na, ci, _, _], .code y b ml rt => (match vwCl[ci]? with
    | some r => decide (y.cls = r.1 ∧ mW hl (.methodLink q.1.cls n y) = true ∧ mW hl (.instanceMethod y) = true ∧ mW hl (.selects r.1 y y) = true ∧ mW hl (.initialized r.1) = true ∧ mW hl (.code y b ml rt) = true ∧ (y.cls ≠ "java/lang/invoke/MethodHandle" ∧ y.cls ≠ "java/lang/invoke/VarHandle" ∧ (parseMethodDescriptor y.desc).map (fun d => d.parameters.length) = some na) ∧ ml ≤ 21)
    | none => false)
  | [na], .code y b ml rt => decide (y.cls = "java/lang/String" ∧ mW hl (.methodLink q.1.cls n y) = true ∧ mW hl (.instanceMethod y) = true ∧ mW hl (.selects "java/lang/String" y y) = true ∧ mW hl (.initialized "java/lang/String") = true ∧ mW hl (.code y b ml rt) = true ∧ (y.cls ≠ "java/lang/invoke/MethodHandle" ∧ y.cls ≠ "java/lang/invoke/VarHandle" ∧ (parseMethodDescriptor y.desc).map (fun d => d.parameters.length) = some na) ∧ ml ≤ 21)
  | _, _ => false
def sdIs (hl : List Nat) (q : MI) (n κ : Nat) (a : List Nat) (w : Cond) : Bool := match κ with
  | 0 => (match a, w with
    | [na, _, _], .code y b ml rt => decide (mW hl (.methodLink q.1.cls n y) = true ∧ mW hl (.static y) = true ∧ mW hl (.initialized y.cls) = true ∧ mW hl (.code y b ml rt) = true ∧ (y.cls ≠ "java/lang/invoke/MethodHandle" ∧ y.cls ≠ "java/lang/invoke/VarHandle" ∧ (parseMethodDescriptor y.desc).map (fun d => d.parameters.length) = some na) ∧ ml ≤ 21)
    | _, _ => false)
  | 1 => decide (mW hl (.methodLink q.1.cls n Lib.Math.min.name) = true ∧ mW hl (.static Lib.Math.min.name) = true ∧ mW hl (.initialized "java/lang/Math") = true ∧ mW hl (.code Lib.Math.min.name Lib.Math.min.code 2 (some .int)) = true)
  | 2 => decide (mW hl (.methodLink q.1.cls n Lib.Math.max.name) = true ∧ mW hl (.static Lib.Math.max.name) = true ∧ mW hl (.initialized "java/lang/Math") = true ∧ mW hl (.code Lib.Math.max.name Lib.Math.max.code 2 (some .int)) = true)
  | _ => false
def sdIp (hl : List Nat) (q : MI) (n κ : Nat) (a : List Nat) (w : Cond) : Bool := match κ with
  | 0 => (match a, w with
    | [na, _, _], .code y b ml rt => decide (rt = none ∧ y.name = "<init>" ∧ (mW hl (.methodLink q.1.cls n y) = true ∨ mN hl (.methodLinkNest q.1.cls n y "PayOrders") = true) ∧ mW hl (.instanceMethod y) = true ∧ mW hl (.initialized y.cls) = true ∧ mW hl (.code y b ml rt) = true ∧ (y.cls ≠ "java/lang/invoke/MethodHandle" ∧ y.cls ≠ "java/lang/invoke/VarHandle" ∧ (parseMethodDescriptor y.desc).map (fun d => d.parameters.length) = some na) ∧ ml ≤ 21)
    | _, _ => false)
  | 1 => decide (mW hl (.methodLink q.1.cls n Lib.objectInit) = true ∧ mW hl (.instanceMethod Lib.objectInit) = true ∧ mW hl (.code Lib.objectInit ⟨#[0xb1]⟩ 1 none) = true)
  | _ => false
def sdNew (hl : List Nat) (q : MI) (n κ : Nat) : Bool := match vwCl[κ]? with
  | some r => decide (mW hl (.classLink q.1.cls n r.1) = true ∧ mW hl (.instantiable r.1 r.2.2) = true ∧ mW hl (.initialized r.1) = true)
  | none => false
def sdAn (hl : List Nat) (q : MI) (n κ : Nat) (w : Cond) : Bool := match w with
  | .classLink _ _ C => decide (((κ = 4 ∧ C = "PayOrders$Table") ∨ (κ = 5 ∧ C = "PayOrders$Payer") ∨ (κ = 6 ∧ C = "PayOrders$Order")) ∧ mW hl (.classLink q.1.cls n C) = true ∧ mN hl (.arrayOver (.object C)) = true)
  | _ => false
def sdMn (hl : List Nat) (q : MI) (n k κ : Nat) (a : List Nat) (w : Cond) : Bool := match w with
  | .arrayClass ty => decide (k = 2 ∧ ((κ = 7 ∧ a.headD 0 = 0 ∧ ty = .int) ∨ (κ = 8 ∧ a.headD 0 = 3 ∧ ty = .long)) ∧ mW hl (.classLink q.1.cls n ("[" ++ (FieldType.array ty).toString)) = true ∧ mN hl (.arrayOver (.array ty)) = true ∧ mW hl (.arrayClass ty) = true)
  | _ => false
def sd (hl : List Nat) (q : MI) (pc : Nat) (e : Ent) : Bool := match e with
  | (ins, _, κ, a, w) => match ins with
  | .iadd => true
  | .isub => true
  | .imul => true
  | .iand => true
  | .ior => true
  | .ishl => true
  | .ishr => true
  | .idiv => true
  | .irem => true
  | .ladd => true
  | .lsub => true
  | .lmul => true
  | .lor => true
  | .land => true
  | .ldiv => true
  | .lshl => true
  | .lcmp => true
  | .i2l => true
  | .i2b => true
  | .l2i => true
  | .iconst n => decide (Int32.ofInt n = kc w)
  | .bipush n => decide ((Int8.ofInt n).toInt32 = kc w)
  | .sipush n => decide ((Int16.ofInt n).toInt32 = kc w)
  | .lconst n => decide (Int64.ofNat (n : Nat) = kl w)
  | .ldc2_w n => mW hl (.constantLong q.1.cls n (kl w))
  | .ldc_w n => mW hl (.constant q.1.cls n (kc w))
  | .ldc n => sdLdc hl q n κ w
  | .iload i => decide (i = κ)
  | .iload_n i => decide ((i : Nat) = κ)
  | .lload i => decide (i = κ)
  | .lload_n i => decide ((i : Nat) = κ)
  | .aload i => decide (i = κ)
  | .aload_n i => decide ((i : Nat) = κ)
  | .istore i => decide (i = κ)
  | .istore_n i => decide ((i : Nat) = κ)
  | .lstore i => decide (i = κ)
  | .lstore_n i => decide ((i : Nat) = κ)
  | .astore i => decide (i = κ)
  | .astore_n i => decide ((i : Nat) = κ)
  | .iinc i n => decide (i = κ ∧ Int32.ofInt n = kc w)
  | .dup => true
  | .pop => true
  | .dup2 => true
  | .ifCond c off => decide ((pc : Int) + off = (κ : Int))
  | .if_icmp c off => decide ((pc : Int) + off = (κ : Int))
  | .goto off => decide ((pc : Int) + off = (κ : Int))
  | .getfield n => sdGet hl q n κ a
  | .putfield n => sdPut hl q n κ a
  | .iaload => true
  | .laload => true
  | .baload => true
  | .aaload => true
  | .arraylength => true
  | .i2c => true
  | .getstatic n => sdGs hl q n κ
  | .iastore => true
  | .lastore => true
  | .bastore => true
  | .aastore => true
  | .ireturn => decide ((κ = 0 ∧ q.2.2.2 = some .int) ∨ (κ = 1 ∧ q.2.2.2 = some .boolean) ∨ (κ = 2 ∧ q.2.2.2 = some .char) ∨ (κ = 3 ∧ q.2.2.2 = some .byte))
  | .return_ => decide (q.2.2.2 = none)
  | .areturn => decide (q.2.2.2 = some (.array .int))
  | .invokevirtual n => sdIv hl q n a w
  | .invokestatic n => sdIs hl q n κ a w
  | .invokespecial n => sdIp hl q n κ a w
  | .new n => sdNew hl q n κ
  | .newarray ty => decide (newarray.typeOf ty = aty (κ + 1) ∧ κ < 4 ∧ mW hl (.arrayClass (aty (κ + 1))) = true)
  | .anewarray n => sdAn hl q n κ w
  | .multianewarray n k => sdMn hl q n k κ a w
  | .tableswitch dflt lo hi offs => decide ((pc : Int) + dflt = (κ : Int) ∧ offs.toList.map (fun o => (pc : Int) + o) = a.map (fun t : Nat => (t : Int)) ∧ hi - lo + 1 = (a.length : Int))
  | .lookupswitch dflt ps => decide ((pc : Int) + dflt = (κ : Int) ∧ ps.toList.map (fun o => (pc : Int) + o.2) = a.map (fun t : Nat => (t : Int))) && (ps.toList.zip (ps.toList.drop 1)).all (fun (u, next) => u.1 < next.1)
  | _ => false
def isSw : Instr → Bool
  | .tableswitch _ _ _ _ => true
  | .lookupswitch _ _ => true
  | _ => false
def chk (hl : List Nat) (q : MI) (pc : Nat) (e : Ent) : Bool := (if isSw e.1 then decide (decode q.2.1 pc = .ok (e.1, e.2.1 - pc)) else decide (decode q.2.1 pc = .ok (e.1, ln e.1) ∧ e.2.1 = pc + ln e.1)) && sd hl q pc e
abbrev Tab : Type := List (Nat × List Nat × Ent)
def lk (t : Tab) (pc : Nat) : Option Ent := (t.lookup pc).map (·.2)
def okT (q : MI) (t : Tab) : Bool := t.all fun e => chk e.2.1 q e.1 e.2.2
theorem fm_tag {σ : St} {k j tag : Nat} {ty : FieldType} (h : tgG ty = tag) (h9 : tag < 9) : fm σ k j ty = fmt σ k j tag := by
  subst h
  cases ty <;> first | rfl | exact absurd h9 (by decide)
