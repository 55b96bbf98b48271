section PAY3
variable {d b b' nt np no K nx T o p t w m k q c n e : Nat} {σ σ' σ2 σ1 τ : St} {B B' : Int} {Rt : Option Value → St → Prop} {i j what net wk tr r v pv : Int32}
theorem LogEq_pay (hq : q = if K = 12 then 11 else K) (hL : LogEq σ K nx) (hC : ∀ a j, (33 ≤ a ∧ a ≤ 44) → a ≠ 33 + nx → gI σ2 a j = gI σ a j)
    (x2 : gI σ2 31 2 = nI ((nx + 1) % 12)) (x1 : gI σ2 31 1 = nI (if K = 12 then 12 else K + 1)) (y1 : gI σ2 89 31 = nI (q + 1))
    (y3 : ∀ j, j < 5 * q → gI σ2 103 j = gI σ 103 (j + 5 * (K - q))) (y4 : ∀ j, j < 6 * q → gI σ2 104 j = gI σ 104 (j + 6 * (K - q)) ∧ gI σ2 105 j = gI σ 105 (j + 6 * (K - q)))
    (z3 : ∀ w, w < 5 → gI σ2 (33 + nx) w = gI σ2 103 (5 * q + w)) (z4 : ∀ o, o < 6 → gI σ2 (33 + nx) (5 + o) = gI σ2 104 (6 * q + o) ∧ gI σ2 (33 + nx) (11 + o) = gI σ2 105 (6 * q + o)) : LogEq σ2 (q + 1) ((nx + 1) % 12) := by
  obtain ⟨⟨l1, l2, l3⟩, ⟨l4, l5⟩, l6⟩ := hL
  have hK' : (if K = 12 then 12 else K + 1) = q + 1 := by
    rw [hq]
    by_cases h : K = 12
    · rw [if_pos h, if_pos h]
    · rw [if_neg h, if_neg h]
  have hqK : q ≤ 11 ∧ (K = 12 ∧ q = 11 ∨ K < 12 ∧ q = K) := by
    by_cases h : K = 12
    · rw [if_pos h] at hq; omega
    · rw [if_neg h] at hq; omega
  rw [hK'] at x1
  refine ⟨⟨x1, y1, by omega⟩, ⟨x2, Nat.mod_lt _ (by omega)⟩, fun q' hq' => ?_⟩
  have hmod : (nx + 1) % 12 = if nx = 11 then 0 else nx + 1 := by
    by_cases h : nx = 11
    · rw [if_pos h, h]
    · rw [if_neg h]; omega
  by_cases hlast : q' = q
  · have hidx : ((nx + 1) % 12 + 12 - (q + 1) + q') % 12 = nx := by
      rw [hlast, hmod]
      by_cases h : nx = 11
      · rw [if_pos h]; omega
      · rw [if_neg h]; omega
    rw [hidx, hlast]
    exact ⟨z3, z4⟩
  · have hidx : ((nx + 1) % 12 + 12 - (q + 1) + q') % 12 = (nx + 12 - K + (q' + (K - q))) % 12 := by
      rw [hmod]
      by_cases h : nx = 11
      · rw [if_pos h]; omega
      · rw [if_neg h]; omega
    have hne : 33 + (nx + 12 - K + (q' + (K - q))) % 12 ≠ 33 + nx := by omega
    have hm : (nx + 12 - K + (q' + (K - q))) % 12 < 12 := Nat.mod_lt _ (by omega)
    have ho := l6 (q' + (K - q)) (by omega)
    have row : gI σ2 (33 + (nx + 12 - K + (q' + (K - q))) % 12) = gI σ (33 + (nx + 12 - K + (q' + (K - q))) % 12) := funext fun j => hC _ j (by omega) hne
    rw [hidx, row]
    refine ⟨fun w hw => ?_, fun o ho' => ?_⟩
    · rw [ho.1 w hw, y3 (5 * q' + w) (by omega)]
      congr 1
      omega
    · rw [(ho.2 o ho').1, (ho.2 o ho').2, (y4 (6 * q' + o) (by omega)).1, (y4 (6 * q' + o) (by omega)).2]
      constructor <;> (congr 1; omega)
theorem PA_pay_t (hd : 14 ≤ d) (hI : InvB σ b b' nt np no K nx T (999999 * c)) (hc : c ≤ 512) (hp : p < np) (hnet : 0 ≤ net ∧ net ≤ 9999) : Pair d q_X9_pay q_X10_pay [.ref 0, .int (nI p), .int net] [.ref 89, .int (nI p), .int net] σ (fun σ2 => INV σ2 (c + 1)) := by
  have hbb : b = 45 ∨ b = 67 := by rcases hI.1.1 with h | h <;> omega
  have hn := hI.2.1.2.1.1
  have hJ := hI.2.1
  have hL := hI.2.2.2.2.2.2.2.1
  refine ⟨_, fun σ1 => PyC σ σ1 b p no nx K net, fun Rt h => X_pay_t hd hI hp hnet h, ?_⟩
  rintro σ1 ⟨w1, w2, w3, w4, w5, w6, w7, w8, w9⟩ Rt h
  have hnx := hL.2.1.2
  have hi : ∀ a, 89 ≤ a → gI σ1 a = gI σ a := fun a ha => w1.row (fun j => by unfold SP; omega)
  have hJ1 : RJ σ1 nt np no 0 (999999 * c) := RJ_hi hi w1.1 w1.2.2.1 hJ
  have hRQ : RQ σ1 σ := ⟨hi 91 (by omega), hi 94 (by omega), hi 95 (by omega), hi 100 (by omega), hJ1.2.2.2, hJ.2.2.2⟩
  have hP : rPay σ1 0 p net 7 7 no 9 = rPay σ 0 p net 7 7 no 9 := rPay_cg hRQ
  have hPy := pyS_cg (t := 0) (p := p) (net := net) hRQ hn.2.2
  refine M_pay_t (K := K) (q := if K = 12 then 11 else K) hd hJ1 (by rw [hi 89 (by omega)]; exact hI.2.2.2.2.2.1.1) hp hnet hL.1.2.2 (by rw [hi 89 (by omega)]; exact hL.1.2.1) rfl (fun σ2 hR => ?_)
  obtain ⟨v1, ⟨v94, v95, v101, v102⟩, v2, v3, v4, v5, v6, v7, v8, v9, v10⟩ := hR
  rw [hP] at v101 v102 v2 v3 v7 v8 ⊢
  have hlo : ∀ a j, a < 89 → gI σ2 a j = gI σ1 a j := fun a j ha => v1.I (by unfold SPR; omega)
  have e100 : gI σ2 100 = gI σ 100 := (v1.row (fun _ => by unfold SPR; omega)).trans (hi 100 (by omega))
  have e91 : gI σ2 91 = gI σ 91 := (v1.row (fun _ => by unfold SPR; omega)).trans (hi 91 (by omega))
  have e94 : gI σ2 94 = gI (pyS σ 0 p net no) 94 := v94.trans hPy.2.1
  have e95 : gI σ2 95 = gI (pyS σ 0 p net no) 95 := v95.trans hPy.2.2.1
  refine h _ ⟨b, b', nt, np, no, _, (nx + 1) % 12, T, InvB_big hI (fun a j hj => ?_) (v1.1.trans w1.1) (v1.2.2.1.trans w1.2.2.1) (fun j hj => ?_) (fun j hj => ?_) (fun o ho => ?_) ?_ ⟨fun o ho => ?_, fun p' hp' => ?_, fun p' h1 h2 => ?_, ?_⟩ (LogEq_pay (q := if K = 12 then 11 else K) rfl hL (fun a j h1 h2 => ?_) ?_ ?_ v4 (fun j hj => ?_) (fun j hj => ?_) (fun w hw => ?_) (fun o ho => ?_)) (fun z => by omega), ?_, ?_⟩
  · rw [v1.I (by unfold SPR; omega), w1.I (by unfold SP; omega)]
  · rw [hlo _ _ (by omega), hlo _ _ (by omega), hlo _ _ (by omega), hlo _ _ (by omega)]
    exact w9 j hj
  · rw [v101, v102]
    exact rPay_hi hn.2.2 hJ.2.2.2 9 j hj
  · have hB1 := (pyS_J (p := p) (net := net) hJ (by omega) hp (net_T hnet)).2.2.1 o ho
    have hB2 : OrdB (pyS σ 0 p net no) nt 0 o (999999 * ((c + 1 : Nat) : Int)) := by
      have e : (999999 * ((c + 1 : Nat) : Int)) = 999999 * c + 999999 := by omega
      rw [e]
      exact hB1
    exact OrdB_row (σ := pyS σ 0 p net no) (fun k => by rw [e91]; rfl) (by rw [e100]; rfl) (by rw [e94]) (by rw [e95]) hB2
  · exact OrdEq_t (σ1 := σ1) (τ := pyS σ 0 p net no) (fun o ho => by rw [e94]) (fun o ho => by rw [e95]) e91 e100 (fun o ho j hj => hlo _ _ (by omega)) w2
  · rw [hlo _ _ (by omega), w3 o ho, v2 o ho, hi 96 (by omega), hI.2.2.2.2.1.1 o ho]
  · have hold := hI.2.2.2.2.1.2.1 p' hp'
    obtain ⟨f1, f2, f3⟩ := v3 p'
    rw [hlo (b + 13 + p') 1 (by omega), hlo (b + 13 + p') 2 (by omega), hlo (b + 13 + p') 3 (by omega), f1, f2, f3, hi 97 (by omega), hi 98 (by omega), hi 99 (by omega)]
    by_cases hpp : p' = p
    · subst hpp
      rw [if_pos rfl, if_pos rfl, if_pos rfl, w4.1, w4.2.1, w4.2.2, hold.1, hold.2.1, hold.2.2]
      exact ⟨rfl, rfl, rfl⟩
    · rw [if_neg hpp, if_neg hpp, if_neg hpp, w1.I (by unfold SP; omega), w1.I (by unfold SP; omega), w1.I (by unfold SP; omega)]
      exact hold
  · have hold := hI.2.2.2.2.1.2.2.1 p' h1 h2
    obtain ⟨f1, f2, f3⟩ := v3 p'
    have hpp : ¬ p' = p := by omega
    rw [f1, f2, f3, if_neg hpp, if_neg hpp, if_neg hpp, hi 97 (by omega), hi 98 (by omega), hi 99 (by omega)]
    exact hold
  · rw [hlo _ _ (by omega), w1.I (by unfold SP; omega), v1.I (by unfold SPR; omega), hi 89 (by omega)]
    exact hI.2.2.2.2.1.2.2.2
  · rw [hlo _ _ (by omega), w1.I (by unfold SP; omega)]
  · rw [hlo _ _ (by omega)]; exact w7.1
  · rw [hlo _ _ (by omega)]; exact w7.2
  · rw [v5 j hj, hi 103 (by omega)]
  · rw [(v6 j hj).1, (v6 j hj).2, hi 104 (by omega), hi 105 (by omega)]
    exact ⟨rfl, rfl⟩
  · obtain ⟨m0, m1, m2, m3, m4⟩ := v7
    rw [hlo _ _ (by omega)]
    have hw' : w = 0 ∨ w = 1 ∨ w = 2 ∨ w = 3 ∨ w = 4 := by omega
    rcases hw' with rfl | rfl | rfl | rfl | rfl
    · rw [w5.1, Nat.add_zero, m0]
    · rw [w5.2.1, m1]
    · rw [w5.2.2.1, m2, rFloor_cg hRQ]
    · rw [w5.2.2.2.1, m3]
    · rw [w5.2.2.2.2, m4, hi 89 (by omega)]
      exact hI.2.2.2.2.1.2.2.2
  · rw [hlo (33 + nx) (5 + o) (by omega), hlo (33 + nx) (11 + o) (by omega), (w6 o ho).1, (w6 o ho).2, (v8 o ho).1, (v8 o ho).2]
    exact ⟨rfl, rfl⟩
  · rw [hlo _ _ (by omega), w8, v9]
  · rw [hlo _ _ (by omega), w8, if_neg (by decide), v10]
end PAY3
