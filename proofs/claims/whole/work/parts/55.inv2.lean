/-! the invariant of the law's loop -/
/-- the class's objects -/
def ClsAt (σ : St) (b b' : Nat) : Prop :=
  (b = 45 ∧ b' = 67 ∨ b = 67 ∧ b' = 45) ∧ (gR σ 0 0 = some 1 ∧ gR σ 0 1 = some 3 ∧ gR σ 0 2 = some 9 ∧ gR σ 0 3 = some 16 ∧ gR σ 0 4 = some 31 ∧ gR σ 0 5 = some b ∧ gR σ 0 6 = some b') ∧
  (gR σ 1 0 = some 2 ∧ gR σ 3 8 = some 4 ∧ gR σ 3 9 = some 8 ∧ ∀ i, i < 3 → gR σ 4 i = some (5 + i)) ∧ (gR σ 31 0 = some 32 ∧ ∀ i, i < 12 → gR σ 32 i = some (33 + i)) ∧
  FigAt σ 9 ∧ TriAt σ ∧ DeskAt σ 45 ∧ DeskAt σ 67
/-- the log: K entries, the class writes at nx next -/
def LogEq (σ : St) (K nx : Nat) : Prop :=
  (gI σ 31 1 = nI K ∧ gI σ 89 31 = nI K ∧ K ≤ 12) ∧ (gI σ 31 2 = nI nx ∧ nx < 12) ∧ ∀ q, q < K →
    (∀ w, w < 5 → gI σ (33 + (nx + 12 - K + q) % 12) w = gI σ 103 (5 * q + w)) ∧ ∀ o, o < 6 → gI σ (33 + (nx + 12 - K + q) % 12) (5 + o) = gI σ 104 (6 * q + o) ∧ gI σ (33 + (nx + 12 - K + q) % 12) (11 + o) = gI σ 105 (6 * q + o)
def TapEq (σ : St) (T : Nat) : Prop := T ≤ 500 ∧ gI σ 1 1 = nI T ∧ gI σ 89 4 = nI T ∧ ∀ j, j < T → gI σ 2 j = gI σ 90 j ∧ (gI σ 2 j).toInt8.toInt32 = gI σ 2 j
def Zro (σ : St) : Prop := ∀ j, 6 ≤ j → gI σ 11 j = 0 ∧ gI σ 12 j = 0 ∧ gI σ 20 j = 0 ∧ gI σ 21 j = 0
def Old (σ : St) (b np no : Nat) : Prop :=
  (∀ o, o < no → gI σ (b + 16 + o) 9 = gI σ 96 o) ∧ (∀ p, p < np → gI σ (b + 13 + p) 1 = gI σ 97 p ∧ gI σ (b + 13 + p) 2 = gI σ 98 p ∧ gI σ (b + 13 + p) 3 = gI σ 99 p) ∧ (∀ p, np ≤ p → p < 3 → gI σ 97 p = 0 ∧ gI σ 98 p = 0 ∧ gI σ 99 p = 0) ∧ gI σ b 9 = gI σ 89 24
def InvB (σ : St) (b b' nt np no K nx T : Nat) (B : Int) : Prop :=
  ClsAt σ b b' ∧ RJ σ nt np no 0 B ∧ DskC σ σ b nt np no ∧ OrdEq σ σ (b + 16) 0 no ∧ Old σ b np no ∧ (gI σ 89 15 = bI (decide (0 < np)) ∧ (np = 0 → nt = 0 ∧ no = 0 ∧ K = 0)) ∧ Zro σ ∧ LogEq σ K nx ∧ TapEq σ T ∧ gI σ 0 8 = gI σ 89 10
def TrOK (σ : St) : Prop := gI σ 0 7 = gI σ 89 1 ∧ (if gI σ 0 7 = 4 then gI σ 0 9 else -1) = gI σ 89 2
/-- behind c calls -/
def INV (σ : St) (c : Nat) : Prop := ∃ b b' nt np no K nx T, InvB σ b b' nt np no K nx T (999999 * c) ∧ TrOK σ
/-- what a call of the class that only tells may change -/
def SC (a j : Nat) : Prop := (a = 0 ∧ j = 7) ∨ (9 ≤ a ∧ a ≤ 15) ∨ (18 ≤ a ∧ a ≤ 30)
def SR (a j : Nat) : Prop := (a = 89 ∧ (j = 0 ∨ j = 1 ∨ j = 2 ∨ j = 27)) ∨ ((a = 94 ∨ a = 95) ∧ 6 ≤ j) ∨ a = 101 ∨ a = 102
def RoC (σ σ' : St) (tr : Int32) : Prop := Fr SC σ σ' ∧ gI σ' 0 7 = tr ∧ Zro σ'
def RoR (σ σ' : St) (tr : Int32) : Prop := Fr SR σ σ' ∧ gI σ' 89 1 = tr ∧ gI σ' 89 2 = -1 ∧ ∀ j, 6 ≤ j → gI σ' 101 j = 0 ∧ gI σ' 102 j = 0
/-- the two answer alike, and I holds then -/
def Pair (d : Nat) (qx qm : MI) (as bs : List Value) (σ : St) (I : St → Prop) : Prop :=
  ∃ (ans : Int32) (P : St → Prop), (∀ Rt : Option Value → St → Prop, (∀ σ1, P σ1 → Rt (some (.int ans)) σ1) → Con d qx 0 0 as σ Rt) ∧ ∀ σ1, P σ1 → ∀ Rt : Option Value → St → Prop, (∀ σ2, I σ2 → Rt (some (.int ans)) σ2) → Con d qm 0 0 bs σ1 Rt
section INV2
variable {σ σ1 τ : St} {S : Nat → Nat → Prop} {b b' nt np no K nx T t o : Nat} {B B' : Int} {tr : Int32}
theorem ClsAt_R (h : gR σ1 = gR σ) (hN : gN σ1 = gN σ) (hC : ClsAt σ b b') : ClsAt σ1 b b' := by
  unfold ClsAt TriAt FigAt DeskAt OrdAt at hC ⊢
  rw [h, hN]
  exact hC
theorem OrdB_row (h91 : ∀ k, gI σ1 91 k = gI σ 91 k) (h100 : gI σ1 100 o = gI σ 100 o) (h94 : gI σ1 94 (t + o) = gI σ 94 (t + o)) (h95 : gI σ1 95 (t + o) = gI σ 95 (t + o)) (h : OrdB σ nt t o B) : OrdB σ1 nt t o B := by
  have h91' : gI σ1 91 = gI σ 91 := funext h91
  unfold OrdB rRest at h ⊢
  rw [h91', h100, h94, h95]
  exact h
theorem OrdEq_row {ob : Nat} (hC : ∀ o, o < no → gI σ1 (ob + o) = gI σ (ob + o)) (h91 : gI σ1 91 = gI σ 91) (h100 : gI σ1 100 = gI σ 100) (h94 : ∀ o, o < no → gI σ1 94 (t + o) = gI σ 94 (t + o)) (h95 : ∀ o, o < no → gI σ1 95 (t + o) = gI σ 95 (t + o)) (h : OrdEq σ σ ob t no) : OrdEq σ1 σ1 ob t no := by
  intro o ho
  have := h o ho
  rw [← hC o ho, ← h91, ← h100, ← h94 o ho, ← h95 o ho] at this
  exact this
/-- the base of the invariant through what changes no number of it -/
theorem InvB_keep (hr : ∀ a j, (a = 0 ∧ j = 8) ∨ a = 1 ∨ a = 2 ∨ (31 ≤ a ∧ a ≤ 88) ∨ (a = 89 ∧ (j = 4 ∨ j = 10 ∨ j = 15 ∨ j = 24 ∨ j = 31)) ∨ a = 90 ∨ a = 91 ∨ ((a = 94 ∨ a = 95) ∧ j < 6) ∨ (96 ≤ a ∧ a ≤ 100) ∨ (103 ≤ a ∧ a ≤ 105) → gI σ1 a j = gI σ a j) (hR : gR σ1 = gR σ) (hN : gN σ1 = gN σ) (hz : Zro σ1) (hz2 : ∀ j, 6 ≤ j → gI σ1 101 j = 0 ∧ gI σ1 102 j = 0) (hI : InvB σ b b' nt np no K nx T B) : InvB σ1 b b' nt np no K nx T B := by
  have row : ∀ a, (a = 1 ∨ a = 2 ∨ (31 ≤ a ∧ a ≤ 88) ∨ a = 90 ∨ a = 91 ∨ (96 ≤ a ∧ a ≤ 100) ∨ (103 ≤ a ∧ a ≤ 105)) → gI σ1 a = gI σ a := fun a ha => funext fun j => hr a j (by omega)
  obtain ⟨hC, ⟨hRf, hD, hO, _⟩, hDC, hOE, ⟨o1, o2, o3, o4⟩, ⟨hth, hth2⟩, _, ⟨l1, l2, l3⟩, ⟨t1, t2, t3, t4⟩, hf⟩ := hI
  have hb : (b = 45 ∨ b = 67) := by rcases hC.1 with h | h <;> omega
  have h91 := row 91 (by omega)
  have hn := hD.1
  refine ⟨ClsAt_R hR hN hC, ⟨RefAt_R hR hN hRf, DskR_row h91 hD, fun o ho => ?_, hz2⟩, ?_, ?_, ⟨fun o ho => ?_, fun p hp => ?_, fun p hp1 hp2 => ?_, ?_⟩, ⟨?_, hth2⟩, hz, ⟨?_, ?_, fun q hq => ?_⟩, ⟨t1, ?_, ?_, fun j hj => ?_⟩, ?_⟩
  · exact OrdB_row (fun k => by rw [h91]) (hr 100 o (by omega)) (hr 94 (0 + o) (by omega)) (hr 95 (0 + o) (by omega)) (hO o ho)
  · unfold DskC at hDC ⊢
    obtain ⟨c1, c2, c3, c4⟩ := hDC
    rw [h91, row b (by omega)]
    refine ⟨c1, c2, fun t ht => ?_, fun p hp => ?_⟩
    · rw [row (b + 4 + 3 * t) (by omega), row (b + 4 + 3 * t + 1) (by omega), row (b + 4 + 3 * t + 2) (by omega)]
      exact c3 t ht
    · rw [row (b + 13 + p) (by omega)]
      exact c4 p hp
  · exact OrdEq_row (fun o ho => row _ (by omega)) h91 (row 100 (by omega)) (fun o ho => hr 94 _ (by omega)) (fun o ho => hr 95 _ (by omega)) hOE
  · rw [row (b + 16 + o) (by omega), row 96 (by omega)]; exact o1 o ho
  · rw [row (b + 13 + p) (by omega), row 97 (by omega), row 98 (by omega), row 99 (by omega)]; exact o2 p hp
  · rw [row 97 (by omega), row 98 (by omega), row 99 (by omega)]; exact o3 p hp1 hp2
  · rw [row b (by omega), hr 89 24 (by omega)]; exact o4
  · rw [hr 89 15 (by omega)]; exact hth
  · rw [row 31 (by omega), hr 89 31 (by omega)]; exact l1
  · rw [row 31 (by omega)]; exact l2
  · have hm : (nx + 12 - K + q) % 12 < 12 := Nat.mod_lt _ (by omega)
    rw [row (33 + (nx + 12 - K + q) % 12) (by omega), row 103 (by omega), row 104 (by omega), row 105 (by omega)]
    exact l3 q hq
  · rw [row 1 (by omega)]; exact t2
  · rw [hr 89 4 (by omega)]; exact t3
  · rw [row 2 (by omega), row 90 (by omega)]; exact t4 j hj
  · rw [hr 0 8 (by omega), hr 89 10 (by omega)]; exact hf
theorem InvB_C (h : RoC σ σ1 tr) (hI : InvB σ b b' nt np no K nx T B) : InvB σ1 b b' nt np no K nx T B := by
  refine InvB_keep (fun a j hj => h.1.I (by unfold SC; omega)) h.1.1 h.1.2.2.1 h.2.2 (fun j hj => ?_) hI
  rw [h.1.I (by unfold SC; omega), h.1.I (by unfold SC; omega)]
  exact hI.2.1.2.2.2 j hj
theorem InvB_R (h : RoR σ σ1 tr) (hI : InvB σ b b' nt np no K nx T B) : InvB σ1 b b' nt np no K nx T B := by
  refine InvB_keep (fun a j hj => h.1.I (by unfold SR; omega)) h.1.1 h.1.2.2.1 (fun j hj => ?_) h.2.2.2 hI
  rw [h.1.I (by unfold SR; omega), h.1.I (by unfold SR; omega), h.1.I (by unfold SR; omega), h.1.I (by unfold SR; omega)]
  exact hI.2.2.2.2.2.2.1 j hj
theorem InvB_mono (h : InvB σ b b' nt np no K nx T B) (hB : B ≤ B') : InvB σ b b' nt np no K nx T B' := ⟨h.1, RJ_mono h.2.1 hB, h.2.2⟩
/-- a call that only tells -/
theorem RO_pair {d c : Nat} {qx qm : MI} {as bs : List Value} {ans : Int32} (ht : ¬ tr = 4) (hI : InvB σ b b' nt np no K nx T (999999 * c))
    (hx : ∀ Rt : Option Value → St → Prop, (∀ σ1, RoC σ σ1 tr → Rt (some (.int ans)) σ1) → Con d qx 0 0 as σ Rt)
    (hm : ∀ σ1, RoC σ σ1 tr → InvB σ1 b b' nt np no K nx T (999999 * c) → ∀ Rt : Option Value → St → Prop, (∀ σ2, RoR σ1 σ2 tr → Rt (some (.int ans)) σ2) → Con d qm 0 0 bs σ1 Rt) : Pair d qx qm as bs σ (fun σ2 => INV σ2 (c + 1)) := by
  refine ⟨ans, fun σ1 => RoC σ σ1 tr, hx, fun σ1 h1 Rt h => hm σ1 h1 (InvB_C h1 hI) Rt (fun σ2 h2 => h σ2 ⟨b, b', nt, np, no, K, nx, T, InvB_mono (InvB_R h2 (InvB_C h1 hI)) (by omega), ?_⟩)⟩
  have e7 : gI σ2 0 7 = tr := (h2.1.I (by unfold SR; omega)).trans h1.2.1
  refine ⟨e7.trans h2.2.1.symm, ?_⟩
  rw [e7, if_neg ht]
  exact h2.2.2.1.symm
theorem in_of {i : Int32} {n : Nat} (hn : n < 1000) (h : 0 ≤ i ∧ i < nI n) : ∃ o, o < n ∧ i = nI o := by
  have h1 := (fa_le _ _).mp h.1
  have h2 := (fa_lt _ _).mp h.2
  rw [iT0] at h1
  rw [nI_toInt (by omega)] at h2
  refine ⟨i.toInt.toNat, by omega, ?_⟩
  rw [fa_eq, nI_toInt (by omega)]
  omega
theorem in_iff {i : Int32} {n : Nat} (hn : n < 1000) : (0 ≤ i ∧ i ≤ nI n - 1) ↔ 0 ≤ i ∧ i < nI n := by
  have e : (nI n - 1).toInt = (n : Int) - 1 := by
    have h1 := nI_toInt (n := n) (by omega)
    rw [fb_subI (by rw [iT1]; omega) (by rw [iT1]; omega), h1, iT1]
  rw [fa_le, fa_le, fa_lt, e, iT0, nI_toInt (by omega)]
  omega
end INV2
