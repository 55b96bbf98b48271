/-! what a table tells: class and reference -/
section TABEQ
variable {σ : St} {k t m : Nat} {net w : Int32}
/-- the rows of a table are as they should be -/
def TabOK (σ : St) (t m : Nat) : Prop := m ≤ 6 ∧ (∀ i, i < m → 0 ≤ (gI σ 91 (12 + 6 * t + i)).toInt ∧ (gI σ 91 (12 + 6 * t + i)).toInt ≤ 9999 ∧ 0 ≤ (gI σ 91 (30 + 6 * t + i)).toInt ∧ (gI σ 91 (30 + 6 * t + i)).toInt ≤ 99) ∧ ∀ i, i + 1 < m → (gI σ 91 (12 + 6 * t + i)).toInt < (gI σ 91 (12 + 6 * t + (i + 1))).toInt
theorem from_T (h : TabOK σ t m) (hw : 1 ≤ w.toInt ∧ w.toInt ≤ 4) {i : Nat} (hi : i < m) : (rFrom σ t i w).toInt = (gI σ 91 (12 + 6 * t + i)).toInt * w.toInt ∧ 0 ≤ (rFrom σ t i w).toInt ∧ (rFrom σ t i w).toInt ≤ 39996 := by
  have h1 := h.2.1 i hi
  have h2 : (gI σ 91 (12 + 6 * t + i)).toInt * w.toInt ≤ 9999 * 4 := Int.mul_le_mul h1.2.1 hw.2 (by omega) (by omega)
  have h3 : 0 ≤ (gI σ 91 (12 + 6 * t + i)).toInt * w.toInt := Int.mul_nonneg h1.1 (by omega)
  have e : (rFrom σ t i w).toInt = (gI σ 91 (12 + 6 * t + i)).toInt * w.toInt := fb_mulI (by omega) (by omega)
  rw [e]
  omega
theorem from_lt (h : TabOK σ t m) (hw : 1 ≤ w.toInt ∧ w.toInt ≤ 4) {i : Nat} (hi : i + 1 < m) : (rFrom σ t i w).toInt < (rFrom σ t (i + 1) w).toInt := by
  rw [(from_T h hw (by omega : i < m)).1, (from_T h hw hi).1]
  exact Int.mul_lt_mul_of_pos_right (h.2.2 i hi) (by omega)
/-- rows behind one that is too high are too high -/
theorem from_up (h : TabOK σ t m) (hw : 1 ≤ w.toInt ∧ w.toInt ≤ 4) : ∀ (d i : Nat), i + d < m → (rFrom σ t i w).toInt ≤ (rFrom σ t (i + d) w).toInt
  | 0, _, _ => Int.le_refl _
  | d + 1, i, hi => by
    have h1 := from_up h hw d i (by omega)
    have h2 := from_lt h hw (i := i + d) (by omega)
    rw [show i + (d + 1) = i + d + 1 from rfl]
    omega
theorem rTab_stop (h : TabOK σ t m) (hw : 1 ≤ w.toInt ∧ w.toInt ≤ 4) {i : Nat} (hi : net.toInt < (rFrom σ t i w).toInt) : ∀ d, i + d ≤ m → rTab σ t m net w (i + d) = rTab σ t m net w i
  | 0, _ => rfl
  | d + 1, hd => by
    have ih := rTab_stop h hw hi d (by omega)
    have := from_up h hw d i (by omega)
    rw [show i + (d + 1) = i + d + 1 from rfl, rTab, if_pos ((fa_lt _ _).mpr (by omega))]
    exact ih
theorem hi_eq (h : TabOK σ t m) (hw : 1 ≤ w.toInt ∧ w.toInt ≤ 4) (ha : gI σ 91 (6 + t) = 1) {fr tk : Nat → Int32} (hf : ∀ i, i < m → fr i = gI σ 91 (12 + 6 * t + i) ∧ tk i = gI σ 91 (30 + 6 * t + i)) : ∀ (j i : Nat) (x : Int32), i + j = m → x * net / 100 = rTab σ t m net w i → hiF fr tk net w j i x * net / 100 = rTab σ t m net w m
  | 0, i, x, hij, hx => by
    obtain rfl : i = m := by omega
    exact hx
  | j + 1, i, x, hij, hx => by
    rw [hiF]
    have hfi : fr i * w = rFrom σ t i w := by rw [(hf i (by omega)).1]; rfl
    by_cases hc : fr i * w ≤ net
    · rw [if_pos hc]
      refine hi_eq h hw ha hf j (i + 1) (tk i) (by omega) ?_
      rw [rTab, if_neg (fun z => by rw [hfi, fa_le] at hc; rw [fa_lt] at z; omega), if_pos ha, (hf i (by omega)).2, Int32.mul_comm]
    · rw [if_neg hc]
      rw [hfi, fa_le] at hc
      rw [hx, ← rTab_stop h hw (by omega) (j + 1) (by omega), hij]
theorem st_eq (h : TabOK σ t m) (hw : 1 ≤ w.toInt ∧ w.toInt ≤ 4) (ha : ¬ gI σ 91 (6 + t) = 1) {fr tk : Nat → Int32} (hf : ∀ i, i < m → fr i = gI σ 91 (12 + 6 * t + i) ∧ tk i = gI σ 91 (30 + 6 * t + i)) : ∀ (j i : Nat), i + j = m → stF fr tk net w m j i (rTab σ t m net w i) = rTab σ t m net w m
  | 0, i, hij => by
    obtain rfl : i = m := by omega
    rfl
  | j + 1, i, hij => by
    rw [stF]
    have hfi : fr i * w = rFrom σ t i w := by rw [(hf i (by omega)).1]; rfl
    have hto : (if i + 1 < m then minI net (fr (i + 1) * w) else net) = (if i + 1 < m then leI net (rFrom σ t (i + 1) w) else net) := by
      by_cases h1 : i + 1 < m
      · rw [if_pos h1, if_pos h1, mm_min, (hf (i + 1) h1).1]; rfl
      · rw [if_neg h1, if_neg h1]
    by_cases hc : fr i * w < net
    · rw [if_pos hc, hto]
      have e : rTab σ t m net w (i + 1) = rTab σ t m net w i + tk i * ((if i + 1 < m then leI net (rFrom σ t (i + 1) w) else net) - fr i * w) / 100 := by
        rw [rTab, if_neg (fun z => by rw [hfi, fa_lt] at hc; rw [fa_lt] at z; omega), if_neg ha, hfi, (hf i (by omega)).2, Int32.mul_comm]
      rw [← e]
      exact st_eq h hw ha hf j (i + 1) (by omega)
    · rw [if_neg hc]
      rw [hfi, fa_lt] at hc
      by_cases he : net.toInt < (rFrom σ t i w).toInt
      · rw [← rTab_stop h hw he (j + 1) (by omega), hij]
      · have heq : rFrom σ t i w = net := (fa_eq _ _).mpr (by omega)
        have hnx : (if i + 1 < m then leI net (rFrom σ t (i + 1) w) else net) = net := by
          by_cases h1 : i + 1 < m
          · have := from_lt h hw h1
            rw [if_pos h1]
            unfold leI
            rw [if_pos ((fa_lt _ _).mpr (by omega))]
          · rw [if_neg h1]
        have e1 : rTab σ t m net w (i + 1) = rTab σ t m net w i := by
          rw [rTab, if_neg (fun z => by rw [fa_lt] at z; omega), if_neg ha, hnx, heq, Int32.sub_self, Int32.zero_mul]
          show rTab σ t m net w i + 0 / 100 = _
          rw [show (0 : Int32) / 100 = 0 by decide, Int32.add_zero]
        rw [← e1]
        by_cases h1 : i + 1 < m
        · have := from_lt h hw h1
          rw [← rTab_stop h hw (i := i + 1) (by omega) j (by omega)]
          congr 1
          omega
        · congr 1
          omega
/-- a table's answer is small -/
theorem rTab_rng (h : TabOK σ t m) (hw : 1 ≤ w.toInt ∧ w.toInt ≤ 4) (hn : 0 ≤ net.toInt ∧ net.toInt ≤ 9999) : ∀ i, i ≤ m → 0 ≤ (rTab σ t m net w i).toInt ∧ (rTab σ t m net w i).toInt ≤ 9899 * (i + 1)
  | 0, _ => by rw [rTab, iT0]; omega
  | i + 1, hi => by
    have ih := rTab_rng h hw hn i (by omega)
    have hm := h.1
    have ht := h.2.1 i (by omega)
    have hF := from_T h hw (by omega : i < m)
    have h100 : (100 : Int32).toInt = 100 := rfl
    rw [rTab]
    by_cases c1 : net < rFrom σ t i w
    · rw [if_pos c1]; omega
    · rw [fa_lt] at c1
      rw [if_neg (by rw [fa_lt]; exact c1)]
      have key : ∀ x y : Int32, 0 ≤ x.toInt → x.toInt ≤ 9999 → 0 ≤ y.toInt → y.toInt ≤ 99 → 0 ≤ (x * y / 100).toInt ∧ (x * y / 100).toInt ≤ 9899 := by
        intro x y x0 x1 y0 y1
        have a1 : x.toInt * y.toInt ≤ 9999 * 99 := Int.mul_le_mul x1 y1 y0 (by omega)
        have a2 : 0 ≤ x.toInt * y.toInt := Int.mul_nonneg x0 y0
        have e : (x * y).toInt = x.toInt * y.toInt := fb_mulI (by omega) (by omega)
        rw [iT_div (by omega) (by rw [h100]; omega), e, h100]
        omega
      by_cases c2 : gI σ 91 (6 + t) = 1
      · rw [if_pos c2]
        have := key net _ hn.1 hn.2 ht.2.2.1 ht.2.2.2
        omega
      · rw [if_neg c2]
        have hto : ∃ z : Int32, (if i + 1 < m then leI net (rFrom σ t (i + 1) w) else net) = z ∧ (rFrom σ t i w).toInt ≤ z.toInt ∧ z.toInt ≤ net.toInt := by
          refine ⟨_, rfl, ?_⟩
          by_cases h1 : i + 1 < m
          · have := from_lt h hw h1
            rw [if_pos h1, leI_T]
            split <;> omega
          · rw [if_neg h1]
            omega
        obtain ⟨z, hz, z1, z2⟩ := hto
        rw [hz]
        have e : (z - rFrom σ t i w).toInt = z.toInt - (rFrom σ t i w).toInt := fb_subI (by omega) (by omega)
        have := key (z - rFrom σ t i w) _ (by omega) (by omega) ht.2.2.1 ht.2.2.2
        rw [fb_addI (by omega) (by omega)]
        omega
theorem tells_eq {τ : St} {k : Nat} (h : TabOK τ t m) (hw : 1 ≤ w.toInt ∧ w.toInt ≤ 4) (hs : gI σ k 3 = if gI τ 91 (6 + t) = 1 then 0 else 1) (hf : ∀ i, i < m → gI σ (k + 1) i = gI τ 91 (12 + 6 * t + i) ∧ gI σ (k + 2) i = gI τ 91 (30 + 6 * t + i)) : cTl σ k m net w = rTab τ t m net w m := by
  unfold cTl
  by_cases ha : gI τ 91 (6 + t) = 1
  · rw [if_pos ha] at hs
    rw [if_pos hs]
    refine hi_eq h hw ha hf m 0 0 (by omega) ?_
    rw [Int32.zero_mul, rTab]
    decide
  · rw [if_neg ha] at hs
    rw [if_neg (by rw [hs]; decide)]
    exact st_eq h hw ha hf m 0 (by omega)
end TABEQ
