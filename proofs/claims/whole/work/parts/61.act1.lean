section ACT1
variable {d b b' nt np no K nx T o p t w m k q c : Nat} {σ σ' σ2 σ1 τ : St} {B : Int} {Rt : Option Value → St → Prop} {i j what net wk tr r n v : Int32}
theorem DskR_lt (h : ∀ k, k < 51 → gI σ1 91 k = gI σ 91 k) (hD : DskR σ nt np no) : DskR σ1 nt np no := by
  obtain ⟨a1, a2, a3, a4, a5, a6, a7⟩ := hD
  unfold DskR
  rw [h 0 (by omega), h 1 (by omega), h 2 (by omega), h 3 (by omega), h 4 (by omega), h 5 (by omega)]
  refine ⟨a1, a2, fun t ht => ?_, a4, a5, a6, fun p hp => ?_⟩
  · obtain ⟨m, m1, ⟨m2, m3, m4⟩, m5⟩ := a3 t ht
    refine ⟨m, by rw [h (9 + t) (by omega)]; exact m1, ⟨m2, fun i hi => ?_, fun i hi => ?_⟩, by rw [h (6 + t) (by omega)]; exact m5⟩
    · rw [h (12 + 6 * t + i) (by omega), h (30 + 6 * t + i) (by omega)]; exact m3 i hi
    · rw [h (12 + 6 * t + i) (by omega), h (12 + 6 * t + (i + 1)) (by omega)]; exact m4 i hi
  · rw [h (48 + p) (by omega)]; exact a7 p hp
/-- one order changed, in class and reference -/
theorem InvB_order (ho : o < no) (hI : InvB σ b b' nt np no K nx T B)
    (hr : ∀ a j, (a = 0 ∧ j = 8) ∨ a = 1 ∨ a = 2 ∨ (31 ≤ a ∧ a ≤ 88) ∨ (a = 89 ∧ (j = 4 ∨ j = 10 ∨ j = 15 ∨ j = 24 ∨ j = 31)) ∨ a = 90 ∨ a = 91 ∨ ((a = 94 ∨ a = 95) ∧ j < 6) ∨ (96 ≤ a ∧ a ≤ 100) ∨ (103 ≤ a ∧ a ≤ 105) → ¬ a = b + 16 + o → ¬ (a = 91 ∧ (j = 51 + o ∨ j = 57 + o ∨ j = 63 + o ∨ j = 69 + o ∨ j = 75 + o ∨ j = 81 + o)) → ¬ ((a = 100 ∨ a = 94 ∨ a = 95) ∧ j = o) → gI σ1 a j = gI σ a j)
    (hR : gR σ1 = gR σ) (hN : gN σ1 = gN σ) (hz : Zro σ1) (hz2 : ∀ j, 6 ≤ j → gI σ1 101 j = 0 ∧ gI σ1 102 j = 0)
    (x0 : gI σ1 (b + 16 + o) 0 = gI σ1 91 (51 + o)) (x1 : gI σ1 (b + 16 + o) 1 = gI σ1 91 (57 + o)) (x2 : gI σ1 (b + 16 + o) 2 = gI σ1 91 (63 + o)) (x3 : gI σ1 (b + 16 + o) 3 = gI σ1 91 (69 + o)) (x4 : gI σ1 (b + 16 + o) 4 = gI σ1 91 (75 + o)) (x5 : gI σ1 (b + 16 + o) 5 = gI σ1 91 (81 + o)) (x6 : gI σ1 (b + 16 + o) 6 = gI σ1 100 o) (x7 : gI σ1 (b + 16 + o) 7 = gI σ1 94 o) (x8 : gI σ1 (b + 16 + o) 8 = gI σ1 95 o) (x9 : gI σ1 (b + 16 + o) 9 = gI σ1 96 o)
    (hB : OrdB σ1 nt 0 o B) : InvB σ1 b b' nt np no K nx T B := by
  obtain ⟨hC, ⟨hRf, hD, hO, _⟩, hDC, hOE, ⟨o1, o2, o3, o4⟩, ⟨hth, hth2⟩, _, ⟨l1, l2, l3⟩, ⟨t1, t2, t3, t4⟩, hf⟩ := hI
  have hb : (b = 45 ∨ b = 67) := by rcases hC.1 with h | h <;> omega
  have hn := hD.1
  have row : ∀ a, (a = 1 ∨ a = 2 ∨ (31 ≤ a ∧ a ≤ 88) ∨ a = 90 ∨ (96 ≤ a ∧ a ≤ 99) ∨ (103 ≤ a ∧ a ≤ 105)) → ¬ a = b + 16 + o → gI σ1 a = gI σ a := fun a ha hne => funext fun j => hr a j (by omega) hne (by omega) (by omega)
  have r91 : ∀ k, k < 51 → gI σ1 91 k = gI σ 91 k := fun k hk => hr 91 k (by omega) (by omega) (by omega) (by omega)
  have r91o : ∀ o' c, o' < 6 → o' ≠ o → c < 6 → gI σ1 91 (51 + 6 * c + o') = gI σ 91 (51 + 6 * c + o') := fun o' c h1 h2 h3 => hr 91 _ (by omega) (by omega) (by omega) (by omega)
  have cell : ∀ a o', (a = 100 ∨ a = 94 ∨ a = 95) → o' < 6 → o' ≠ o → gI σ1 a o' = gI σ a o' := fun a o' h1 h2 h3 => hr a o' (by omega) (by omega) (by omega) (by omega)
  refine ⟨ClsAt_R hR hN hC, ⟨RefAt_R hR hN hRf, DskR_lt r91 hD, fun o' ho' => ?_, hz2⟩, ?_, fun o' ho' => ?_, ⟨fun o' ho' => ?_, fun p hp => ?_, fun p hp1 hp2 => ?_, ?_⟩, ⟨?_, hth2⟩, hz, ⟨?_, ?_, fun q hq => ?_⟩, ⟨t1, ?_, ?_, fun j hj => ?_⟩, ?_⟩
  · by_cases hoo : o' = o
    · rw [hoo]; exact hB
    · have h0 := hO o' ho'
      unfold OrdB rRest at h0 ⊢
      rw [r91o o' 0 (by omega) hoo (by omega), r91o o' 1 (by omega) hoo (by omega), r91o o' 2 (by omega) hoo (by omega), r91o o' 3 (by omega) hoo (by omega), r91o o' 4 (by omega) hoo (by omega), cell 100 o' (by omega) (by omega) hoo, cell 94 (0 + o') (by omega) (by omega) (by omega), cell 95 (0 + o') (by omega) (by omega) (by omega)]
      exact h0
  · obtain ⟨c1, c2, c3, c4⟩ := hDC
    unfold DskC
    rw [row b (by omega) (by omega), r91 0 (by omega), r91 1 (by omega), r91 2 (by omega)]
    refine ⟨c1, c2, fun t ht => ?_, fun p hp => ?_⟩
    · obtain ⟨m, m1, ⟨m2, _, _⟩, _⟩ := hD.2.2.1 t ht
      obtain ⟨d1, d2, d3⟩ := c3 t ht
      rw [row (b + 4 + 3 * t) (by omega) (by omega), row (b + 4 + 3 * t + 1) (by omega) (by omega), row (b + 4 + 3 * t + 2) (by omega) (by omega), r91 (9 + t) (by omega), r91 (6 + t) (by omega)]
      refine ⟨d1, d2, fun m' hm6 hm' i hi => ?_⟩
      rw [r91 (12 + 6 * t + i) (by omega), r91 (30 + 6 * t + i) (by omega)]
      exact d3 m' hm6 hm' i hi
    · rw [row (b + 13 + p) (by omega) (by omega), r91 (48 + p) (by omega)]
      exact c4 p hp
  · by_cases hoo : o' = o
    · subst hoo
      rw [Nat.zero_add]
      refine ⟨fun j hj => ?_, x6, x7, x8⟩
      have : j = 0 ∨ j = 1 ∨ j = 2 ∨ j = 3 ∨ j = 4 ∨ j = 5 := by omega
      rcases this with rfl | rfl | rfl | rfl | rfl | rfl
      · exact x0
      · exact x1
      · exact x2
      · exact x3
      · exact x4
      · exact x5
    · obtain ⟨e1, e6, e7, e8⟩ := hOE o' ho'
      rw [row (b + 16 + o') (by omega) (by omega), cell 100 o' (by omega) (by omega) hoo, cell 94 (0 + o') (by omega) (by omega) (by omega), cell 95 (0 + o') (by omega) (by omega) (by omega)]
      refine ⟨fun j hj => ?_, e6, e7, e8⟩
      rw [r91o o' j (by omega) hoo hj]
      exact e1 j hj
  · by_cases hoo : o' = o
    · rw [hoo]; exact x9
    · rw [row (b + 16 + o') (by omega) (by omega), row 96 (by omega) (by omega)]; exact o1 o' ho'
  · rw [row (b + 13 + p) (by omega) (by omega), row 97 (by omega) (by omega), row 98 (by omega) (by omega), row 99 (by omega) (by omega)]; exact o2 p hp
  · rw [row 97 (by omega) (by omega), row 98 (by omega) (by omega), row 99 (by omega) (by omega)]; exact o3 p hp1 hp2
  · rw [row b (by omega) (by omega), hr 89 24 (by omega) (by omega) (by omega) (by omega)]; exact o4
  · rw [hr 89 15 (by omega) (by omega) (by omega) (by omega)]; exact hth
  · rw [row 31 (by omega) (by omega), hr 89 31 (by omega) (by omega) (by omega) (by omega)]; exact l1
  · rw [row 31 (by omega) (by omega)]; exact l2
  · have hm : (nx + 12 - K + q) % 12 < 12 := Nat.mod_lt _ (by omega)
    rw [row (33 + (nx + 12 - K + q) % 12) (by omega) (by omega), row 103 (by omega) (by omega), row 104 (by omega) (by omega), row 105 (by omega) (by omega)]
    exact l3 q hq
  · rw [row 1 (by omega) (by omega)]; exact t2
  · rw [hr 89 4 (by omega) (by omega) (by omega) (by omega)]; exact t3
  · rw [row 2 (by omega) (by omega), row 90 (by omega) (by omega)]; exact t4 j hj
  · rw [hr 0 8 (by omega) (by omega) (by omega) (by omega), hr 89 10 (by omega) (by omega) (by omega) (by omega)]; exact hf
end ACT1
