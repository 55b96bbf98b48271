/-! numbers: the machine's ints as integers (fa_, fb_: kit/laws) -/
theorem fa_lt (a b : Int32) : a < b ↔ a.toInt < b.toInt := Int32.lt_iff_toInt_lt
theorem fa_le (a b : Int32) : a ≤ b ↔ a.toInt ≤ b.toInt := Int32.le_iff_toInt_le
theorem fa_eq (a b : Int32) : a = b ↔ a.toInt = b.toInt := Int32.toInt_inj.symm
theorem fb_rng (x : Int32) : -2147483648 ≤ x.toInt ∧ x.toInt < 2147483648 := by
  have h1 := Int32.le_toInt x
  have h2 := Int32.toInt_lt x
  omega
theorem fb_bmod {z : Int} (h1 : -2147483648 ≤ z) (h2 : z < 2147483648) : z.bmod (2 ^ 32) = z := by
  rw [Int.bmod_eq_of_le (by omega) (by omega)]
theorem fb_addI {x y : Int32} (h1 : -2147483648 ≤ x.toInt + y.toInt) (h2 : x.toInt + y.toInt < 2147483648) : (x + y).toInt = x.toInt + y.toInt := by
  rw [Int32.toInt_add, fb_bmod h1 h2]
theorem fb_subI {x y : Int32} (h1 : -2147483648 ≤ x.toInt - y.toInt) (h2 : x.toInt - y.toInt < 2147483648) : (x - y).toInt = x.toInt - y.toInt := by
  rw [Int32.toInt_sub, fb_bmod h1 h2]
theorem fb_mulI {x y : Int32} (h1 : -2147483648 ≤ x.toInt * y.toInt) (h2 : x.toInt * y.toInt < 2147483648) : (x * y).toInt = x.toInt * y.toInt := by
  rw [Int32.toInt_mul, fb_bmod h1 h2]
theorem fb_bmodL {z : Int} (h1 : -9223372036854775808 ≤ z) (h2 : z < 9223372036854775808) : z.bmod (2 ^ 64) = z := by
  rw [Int.bmod_eq_of_le (by omega) (by omega)]
theorem fb_mulL {x y : Int64} (h1 : -9223372036854775808 ≤ x.toInt * y.toInt) (h2 : x.toInt * y.toInt < 9223372036854775808) : (x * y).toInt = x.toInt * y.toInt := by
  rw [Int64.toInt_mul, fb_bmodL h1 h2]
theorem iT0 : (0 : Int32).toInt = 0 := rfl
theorem iT1 : (1 : Int32).toInt = 1 := rfl
theorem ediv_le {a b : Int} (ha : 0 ≤ a) (hb : 0 < b) : 0 ≤ a / b ∧ a / b ≤ a := ⟨Int.ediv_nonneg ha (by omega), Int.ediv_le_self _ ha⟩
theorem iT_div {a b : Int32} (ha : 0 ≤ a.toInt) (hb : 0 < b.toInt) : (a / b).toInt = a.toInt / b.toInt := by
  have h := ediv_le ha hb
  have h2 := fb_rng a
  rw [Int32.toInt_div, Int.tdiv_eq_ediv_of_nonneg ha, fb_bmod (by omega) (by omega)]
theorem lT_div {a b : Int64} (ha : 0 ≤ a.toInt) (hb : 0 < b.toInt) : (a / b).toInt = a.toInt / b.toInt := by
  have h := ediv_le ha hb
  have h2 := Int64.toInt_lt a
  rw [Int64.toInt_div, Int.tdiv_eq_ediv_of_nonneg ha, fb_bmodL (by omega) (by omega)]
/-- a part of a pool: no more than is wanted -/
theorem part_rng {P w A : Int32} (hP0 : 0 ≤ P.toInt) (hP : P.toInt ≤ A.toInt) (hA : 0 < A.toInt) (hw0 : 0 ≤ w.toInt) (hw : w.toInt ≤ 999999) :
    0 ≤ ((P.toInt64 * w.toInt64 / A.toInt64).toInt32).toInt ∧ ((P.toInt64 * w.toInt64 / A.toInt64).toInt32).toInt ≤ w.toInt := by
  have eP : P.toInt64.toInt = P.toInt := Int32.toInt_toInt64 P
  have ew : w.toInt64.toInt = w.toInt := Int32.toInt_toInt64 w
  have eA : A.toInt64.toInt = A.toInt := Int32.toInt_toInt64 A
  have hr := fb_rng P
  have h0 : 0 ≤ P.toInt * w.toInt := Int.mul_nonneg hP0 hw0
  have h1 : P.toInt * w.toInt ≤ P.toInt * 999999 := Int.mul_le_mul_of_nonneg_left hw hP0
  have em : (P.toInt64 * w.toInt64).toInt = P.toInt * w.toInt := by
    rw [fb_mulL (by rw [eP, ew]; omega) (by rw [eP, ew]; omega), eP, ew]
  have ed : (P.toInt64 * w.toInt64 / A.toInt64).toInt = P.toInt * w.toInt / A.toInt := by
    rw [lT_div (by rw [em]; exact h0) (by rw [eA]; exact hA), em, eA]
  have h2 : 0 ≤ P.toInt * w.toInt / A.toInt := Int.ediv_nonneg h0 (by omega)
  have h3 : P.toInt * w.toInt / A.toInt ≤ w.toInt := by
    refine Int.ediv_le_of_le_mul hA ?_
    rw [Int.mul_comm P.toInt]
    exact Int.mul_le_mul_of_nonneg_left hP hw0
  rw [Int64.toInt_toInt32, ed, fb_bmod (by omega) (by omega)]
  exact ⟨h2, h3⟩
theorem mm_max (a b : Int32) : maxI a b = grI a b := by
  unfold maxI grI
  by_cases h : a < b
  · rw [if_pos h, if_neg (by rw [fa_lt] at h ⊢; omega)]
  · by_cases h2 : b < a
    · rw [if_neg h, if_pos h2]
    · rw [if_neg h, if_neg h2]
      rw [fa_lt] at h h2
      exact (fa_eq a b).mpr (by omega)
theorem mm_min (a b : Int32) : minI a b = leI a b := by
  unfold minI leI
  by_cases h : a < b
  · rw [if_pos h, if_neg (by rw [fa_lt] at h ⊢; omega)]
  · by_cases h2 : b < a
    · rw [if_neg h, if_pos h2]
    · rw [if_neg h, if_neg h2]
      rw [fa_lt] at h h2
      exact (fa_eq a b).mpr (by omega)
theorem le_comm (a b : Int32) : leI a b = leI b a := by
  unfold leI
  by_cases h : a < b
  · rw [if_pos h, if_neg (by rw [fa_lt] at h ⊢; omega)]
  · by_cases h2 : b < a
    · rw [if_neg h, if_pos h2]
    · rw [if_neg h, if_neg h2]
      rw [fa_lt] at h h2
      exact (fa_eq b a).mpr (by omega)
theorem gr_comm (a b : Int32) : grI a b = grI b a := by
  unfold grI
  by_cases h : a < b
  · rw [if_pos h, if_neg (by rw [fa_lt] at h ⊢; omega)]
  · by_cases h2 : b < a
    · rw [if_neg h, if_pos h2]
    · rw [if_neg h, if_neg h2]
      rw [fa_lt] at h h2
      exact (fa_eq b a).mpr (by omega)
theorem leI_T (a b : Int32) : (leI a b).toInt = if a.toInt < b.toInt then a.toInt else b.toInt := by
  unfold leI
  by_cases h : a < b
  · rw [if_pos h, if_pos ((fa_lt a b).mp h)]
  · rw [if_neg h, if_neg (fun z => h ((fa_lt a b).mpr z))]
theorem grI_T (a b : Int32) : (grI a b).toInt = if b.toInt < a.toInt then a.toInt else b.toInt := by
  unfold grI
  by_cases h : b < a
  · rw [if_pos h, if_pos ((fa_lt b a).mp h)]
  · rw [if_neg h, if_neg (fun z => h ((fa_lt b a).mpr z))]
/-- sums of integers -/
def siI (f : Nat → Int) : Nat → Int
  | 0 => 0
  | n + 1 => siI f n + f n
theorem siI_cg {f g : Nat → Int} : ∀ n, (∀ o, o < n → f o = g o) → siI f n = siI g n
  | 0, _ => rfl
  | n + 1, h => by rw [siI, siI, siI_cg n (fun o ho => h o (by omega)), h n (by omega)]
theorem siI_upd (f : Nat → Int32) (v : Int32) (i : Nat) : ∀ n, i < n → siI (fun k => (upd f i v k).toInt) n = siI (fun k => (f k).toInt) n - (f i).toInt + v.toInt
  | 0, h => absurd h (Nat.not_lt_zero i)
  | n + 1, h => by
    rw [siI, siI]
    by_cases hi : i < n
    · rw [siI_upd f v i n hi, pk_un (by omega)]
      omega
    · have : i = n := by omega
      subst this
      rw [siI_cg (f := fun k => (upd f i v k).toInt) (g := fun k => (f k).toInt) i (fun o ho => by rw [pk_un (by omega)]), pk_us]
      omega
theorem siI_rng {f : Nat → Int} {c : Int} (hc : 0 ≤ c) : ∀ n, (∀ o, o < n → 0 ≤ f o ∧ f o ≤ c) → 0 ≤ siI f n ∧ siI f n ≤ n * c
  | 0, _ => by rw [siI]; omega
  | n + 1, h => by
    have h1 := siI_rng hc n (fun o ho => h o (by omega))
    have h2 := h n (by omega)
    rw [siI]
    have h3 : ((n + 1 : Nat) : Int) * c = n * c + c := by rw [Int.natCast_add, Int.add_mul]; omega
    omega
