section PAIRS
variable {d b b' nt np no K nx T o p t w m k q c : Nat} {σ σ1 : St} {i j what net wk tr r n v x y z u ans : Int32} {qx qm : MI} {as bs : List Value}
theorem RQ_00 (h : RQ σ1 σ) : RQ (runS σ1 net np no 0) (runS σ net np no 0) := by
  refine ⟨h.1, ?_, ?_, h.2.2.2.1, h.2.2.2.2.1, h.2.2.2.2.2⟩
  · show uF (gI σ1 94) 6 (gI σ1 94) 6 = uF (gI σ 94) 6 (gI σ 94) 6
    rw [h.2.1]
  · show uF (gI σ1 95) 6 (gI σ1 95) 6 = uF (gI σ 95) 6 (gI σ 95) 6
    rw [h.2.2.1]
theorem rTl_cg (h : gI σ1 91 = gI σ 91) : rTl σ1 t net wk = rTl σ t net wk := by unfold rTl; rw [h, rTab_cg h]
theorem RO_p2 (ht : ¬ tr = 4) (hI : InvB σ b b' nt np no K nx T (999999 * c))
    (hx : ∀ Rt : Option Value → St → Prop, (∀ σ1, RoC σ σ1 tr → Rt (some (.int ans)) σ1) → Con d qx 0 0 as σ Rt)
    (hm : ∀ σ1, InvB σ1 b b' nt np no K nx T (999999 * c) → RQ σ1 σ → (∀ a, 89 ≤ a → gI σ1 a = gI σ a) → ∀ Rt : Option Value → St → Prop, (∀ σ2, RoR σ1 σ2 tr → Rt (some (.int ans)) σ2) → Con d qm 0 0 bs σ1 Rt) : Pair d qx qm as bs σ (fun σ2 => INV σ2 (c + 1)) := by
  refine RO_pair ht hI hx (fun σ1 r1 hI1 Rt h => hm σ1 hI1 ?_ ?_ Rt h)
  · have rr : ∀ a, 89 ≤ a → gI σ1 a = gI σ a := fun a ha => funext fun j => r1.1.I (by unfold SC; omega)
    exact ⟨rr 91 (by omega), rr 94 (by omega), rr 95 (by omega), rr 100 (by omega), hI1.2.1.2.2.2, hI.2.1.2.2.2⟩
  · exact fun a ha => funext fun j => r1.1.I (by unfold SC; omega)
theorem in_le {n : Nat} (hn : n < 999) (h : 0 ≤ i ∧ i ≤ nI n) : ∃ o, o ≤ n ∧ i = nI o := by
  obtain ⟨o, ho, e⟩ := in_of (i := i) (n := n + 1) (by omega) ⟨h.1, by
    have h2 := h.2
    rw [fa_le, nI_toInt (by omega)] at h2
    rw [fa_lt, nI_toInt (by omega)]
    omega⟩
  exact ⟨o, by omega, e⟩
theorem in_1 {n : Nat} (hn : n < 999) (h : 1 ≤ i ∧ i ≤ nI n) : ∃ o, (1 ≤ o ∧ o ≤ n) ∧ i = nI o := by
  have h1 := h.1
  rw [fa_le] at h1
  have e1 : (1 : Int32).toInt = 1 := rfl
  obtain ⟨o, ho, e⟩ := in_le hn ⟨by rw [fa_le]; have : (0 : Int32).toInt = 0 := rfl; omega, h.2⟩
  refine ⟨o, ⟨?_, ho⟩, e⟩
  rw [e, nI_toInt (by omega)] at h1
  omega
theorem PC_order (hd : 14 ≤ d) (hI : InvB σ b b' nt np no K nx T (999999 * c)) (hc : c ≤ 512) : Pair d q_X9_order q_X10_order [.ref 0, .int i, .int what] [.ref 89, .int i, .int what] σ (fun σ2 => INV σ2 (c + 1)) := by
  have hb1 := hI.2.1.2.1.1
  have hB : (999999 * (c : Int)) ≤ 1000000000 := by omega
  by_cases hi : 0 ≤ i ∧ i < nI no
  rotate_left
  · refine RO_p2 (by decide) hI (fun Rt h => X_order_n hd hI hi h) (fun σ1 hI1 hq rr Rt h => ?_)
    have rr89 : gI σ1 89 = gI σ 89 := rr 89 (by omega)
    have rr91 : gI σ1 91 = gI σ 91 := rr 91 (by omega)
    have rr94 : gI σ1 94 = gI σ 94 := rr 94 (by omega)
    have rr95 : gI σ1 95 = gI σ 95 := rr 95 (by omega)
    have rr96 : gI σ1 96 = gI σ 96 := rr 96 (by omega)
    have rr97 : gI σ1 97 = gI σ 97 := rr 97 (by omega)
    have rr98 : gI σ1 98 = gI σ 98 := rr 98 (by omega)
    have rr99 : gI σ1 99 = gI σ 99 := rr 99 (by omega)
    have rr100 : gI σ1 100 = gI σ 100 := rr 100 (by omega)
    have rr103 : gI σ1 103 = gI σ 103 := rr 103 (by omega)
    have rr104 : gI σ1 104 = gI σ 104 := rr 104 (by omega)
    have rr105 : gI σ1 105 = gI σ 105 := rr 105 (by omega)
    have hown : ∀ o p net, rOwn σ1 o p net = rOwn σ o p net := fun o p net => congrFun (rOwn_cg (p := p) (net := net) hq) o
    have htl : ∀ t net wk, rTl σ1 t net wk = rTl σ t net wk := fun t net wk => rTl_cg rr91
    have hrn : ∀ net k, RQ (runS σ1 net np no k) (runS σ net np no k) := fun net k => runS_cg (RQ_00 hq) hI.2.1.2.1.1.2.2 k
    have hrn1 : ∀ net k t o, rRest (runS σ1 net np no k) t o = rRest (runS σ net np no k) t o := fun net k t o => rRest_cg (hrn net k)
    have hrn2 : ∀ net k, gI (runS σ1 net np no k) 94 = gI (runS σ net np no k) 94 := fun net k => (hrn net k).2.1
    have hrn3 : ∀ net k, gI (runS σ1 net np no k) 95 = gI (runS σ net np no k) 95 := fun net k => (hrn net k).2.2.1
    have hrn4 : ∀ net k, anyO (runS σ1 net np no k) no = anyO (runS σ net np no k) no := fun net k => anyO_cg (hrn net k) no
    refine M_order_n hd hI1 hi (fun σ2 r2 => ?_)
    try simp only [rr91, rr94, rr95, rr96, rr97, rr98, rr99, rr100, rr103, rr104, rr105, rr89, rPay_cg hq, rIn_cg hq, rLive_cg hq, rRest_cg hq, rFloor_cg hq, rAt_cg hq, hown, htl, hrn1, hrn2, hrn3, hrn4]
    exact h σ2 r2
  obtain ⟨o, ho, rfl⟩ := in_of (by omega) hi
  by_cases hw : 0 ≤ what ∧ what ≤ 11
  rotate_left
  · refine RO_p2 (by decide) hI (fun Rt h => X_order_w hd hI ho hw h) (fun σ1 hI1 hq rr Rt h => ?_)
    have rr89 : gI σ1 89 = gI σ 89 := rr 89 (by omega)
    have rr91 : gI σ1 91 = gI σ 91 := rr 91 (by omega)
    have rr94 : gI σ1 94 = gI σ 94 := rr 94 (by omega)
    have rr95 : gI σ1 95 = gI σ 95 := rr 95 (by omega)
    have rr96 : gI σ1 96 = gI σ 96 := rr 96 (by omega)
    have rr97 : gI σ1 97 = gI σ 97 := rr 97 (by omega)
    have rr98 : gI σ1 98 = gI σ 98 := rr 98 (by omega)
    have rr99 : gI σ1 99 = gI σ 99 := rr 99 (by omega)
    have rr100 : gI σ1 100 = gI σ 100 := rr 100 (by omega)
    have rr103 : gI σ1 103 = gI σ 103 := rr 103 (by omega)
    have rr104 : gI σ1 104 = gI σ 104 := rr 104 (by omega)
    have rr105 : gI σ1 105 = gI σ 105 := rr 105 (by omega)
    have hown : ∀ o p net, rOwn σ1 o p net = rOwn σ o p net := fun o p net => congrFun (rOwn_cg (p := p) (net := net) hq) o
    have htl : ∀ t net wk, rTl σ1 t net wk = rTl σ t net wk := fun t net wk => rTl_cg rr91
    have hrn : ∀ net k, RQ (runS σ1 net np no k) (runS σ net np no k) := fun net k => runS_cg (RQ_00 hq) hI.2.1.2.1.1.2.2 k
    have hrn1 : ∀ net k t o, rRest (runS σ1 net np no k) t o = rRest (runS σ net np no k) t o := fun net k t o => rRest_cg (hrn net k)
    have hrn2 : ∀ net k, gI (runS σ1 net np no k) 94 = gI (runS σ net np no k) 94 := fun net k => (hrn net k).2.1
    have hrn3 : ∀ net k, gI (runS σ1 net np no k) 95 = gI (runS σ net np no k) 95 := fun net k => (hrn net k).2.2.1
    have hrn4 : ∀ net k, anyO (runS σ1 net np no k) no = anyO (runS σ net np no k) no := fun net k => anyO_cg (hrn net k) no
    refine M_order_w hd hI1 ho hw (fun σ2 r2 => ?_)
    try simp only [rr91, rr94, rr95, rr96, rr97, rr98, rr99, rr100, rr103, rr104, rr105, rr89, rPay_cg hq, rIn_cg hq, rLive_cg hq, rRest_cg hq, rFloor_cg hq, rAt_cg hq, hown, htl, hrn1, hrn2, hrn3, hrn4]
    exact h σ2 r2
  obtain ⟨w, hw1, rfl⟩ := in_le (n := 11) (by omega) hw
  have hOB := hI.2.1.2.2.1 o ho
  have hw_w : w = 0 ∨ w = 1 ∨ w = 2 ∨ w = 3 ∨ w = 4 ∨ w = 5 ∨ w = 6 ∨ w = 7 ∨ w = 8 ∨ w = 9 ∨ w = 10 ∨ w = 11 := by omega
  rcases hw_w with rfl | rfl | rfl | rfl | rfl | rfl | rfl | rfl | rfl | rfl | rfl | rfl
  · refine RO_p2 (by decide) hI (fun Rt h => X_order_0 hd hI ho h) (fun σ1 hI1 hq rr Rt h => ?_)
    have rr89 : gI σ1 89 = gI σ 89 := rr 89 (by omega)
    have rr91 : gI σ1 91 = gI σ 91 := rr 91 (by omega)
    have rr94 : gI σ1 94 = gI σ 94 := rr 94 (by omega)
    have rr95 : gI σ1 95 = gI σ 95 := rr 95 (by omega)
    have rr96 : gI σ1 96 = gI σ 96 := rr 96 (by omega)
    have rr97 : gI σ1 97 = gI σ 97 := rr 97 (by omega)
    have rr98 : gI σ1 98 = gI σ 98 := rr 98 (by omega)
    have rr99 : gI σ1 99 = gI σ 99 := rr 99 (by omega)
    have rr100 : gI σ1 100 = gI σ 100 := rr 100 (by omega)
    have rr103 : gI σ1 103 = gI σ 103 := rr 103 (by omega)
    have rr104 : gI σ1 104 = gI σ 104 := rr 104 (by omega)
    have rr105 : gI σ1 105 = gI σ 105 := rr 105 (by omega)
    have hown : ∀ o p net, rOwn σ1 o p net = rOwn σ o p net := fun o p net => congrFun (rOwn_cg (p := p) (net := net) hq) o
    have htl : ∀ t net wk, rTl σ1 t net wk = rTl σ t net wk := fun t net wk => rTl_cg rr91
    have hrn : ∀ net k, RQ (runS σ1 net np no k) (runS σ net np no k) := fun net k => runS_cg (RQ_00 hq) hI.2.1.2.1.1.2.2 k
    have hrn1 : ∀ net k t o, rRest (runS σ1 net np no k) t o = rRest (runS σ net np no k) t o := fun net k t o => rRest_cg (hrn net k)
    have hrn2 : ∀ net k, gI (runS σ1 net np no k) 94 = gI (runS σ net np no k) 94 := fun net k => (hrn net k).2.1
    have hrn3 : ∀ net k, gI (runS σ1 net np no k) 95 = gI (runS σ net np no k) 95 := fun net k => (hrn net k).2.2.1
    have hrn4 : ∀ net k, anyO (runS σ1 net np no k) no = anyO (runS σ net np no k) no := fun net k => anyO_cg (hrn net k) no
    refine M_order_0 hd hI1 ho (fun σ2 r2 => ?_)
    try simp only [rr91, rr94, rr95, rr96, rr97, rr98, rr99, rr100, rr103, rr104, rr105, rr89, rPay_cg hq, rIn_cg hq, rLive_cg hq, rRest_cg hq, rFloor_cg hq, rAt_cg hq, hown, htl, hrn1, hrn2, hrn3, hrn4]
    exact h σ2 r2
  · refine RO_p2 (by decide) hI (fun Rt h => X_order_1 hd hI ho h) (fun σ1 hI1 hq rr Rt h => ?_)
    have rr89 : gI σ1 89 = gI σ 89 := rr 89 (by omega)
    have rr91 : gI σ1 91 = gI σ 91 := rr 91 (by omega)
    have rr94 : gI σ1 94 = gI σ 94 := rr 94 (by omega)
    have rr95 : gI σ1 95 = gI σ 95 := rr 95 (by omega)
    have rr96 : gI σ1 96 = gI σ 96 := rr 96 (by omega)
    have rr97 : gI σ1 97 = gI σ 97 := rr 97 (by omega)
    have rr98 : gI σ1 98 = gI σ 98 := rr 98 (by omega)
    have rr99 : gI σ1 99 = gI σ 99 := rr 99 (by omega)
    have rr100 : gI σ1 100 = gI σ 100 := rr 100 (by omega)
    have rr103 : gI σ1 103 = gI σ 103 := rr 103 (by omega)
    have rr104 : gI σ1 104 = gI σ 104 := rr 104 (by omega)
    have rr105 : gI σ1 105 = gI σ 105 := rr 105 (by omega)
    have hown : ∀ o p net, rOwn σ1 o p net = rOwn σ o p net := fun o p net => congrFun (rOwn_cg (p := p) (net := net) hq) o
    have htl : ∀ t net wk, rTl σ1 t net wk = rTl σ t net wk := fun t net wk => rTl_cg rr91
    have hrn : ∀ net k, RQ (runS σ1 net np no k) (runS σ net np no k) := fun net k => runS_cg (RQ_00 hq) hI.2.1.2.1.1.2.2 k
    have hrn1 : ∀ net k t o, rRest (runS σ1 net np no k) t o = rRest (runS σ net np no k) t o := fun net k t o => rRest_cg (hrn net k)
    have hrn2 : ∀ net k, gI (runS σ1 net np no k) 94 = gI (runS σ net np no k) 94 := fun net k => (hrn net k).2.1
    have hrn3 : ∀ net k, gI (runS σ1 net np no k) 95 = gI (runS σ net np no k) 95 := fun net k => (hrn net k).2.2.1
    have hrn4 : ∀ net k, anyO (runS σ1 net np no k) no = anyO (runS σ net np no k) no := fun net k => anyO_cg (hrn net k) no
    refine M_order_1 hd hI1 ho (fun σ2 r2 => ?_)
    try simp only [rr91, rr94, rr95, rr96, rr97, rr98, rr99, rr100, rr103, rr104, rr105, rr89, rPay_cg hq, rIn_cg hq, rLive_cg hq, rRest_cg hq, rFloor_cg hq, rAt_cg hq, hown, htl, hrn1, hrn2, hrn3, hrn4]
    exact h σ2 r2
  · refine RO_p2 (by decide) hI (fun Rt h => X_order_2 hd hI ho h) (fun σ1 hI1 hq rr Rt h => ?_)
    have rr89 : gI σ1 89 = gI σ 89 := rr 89 (by omega)
    have rr91 : gI σ1 91 = gI σ 91 := rr 91 (by omega)
    have rr94 : gI σ1 94 = gI σ 94 := rr 94 (by omega)
    have rr95 : gI σ1 95 = gI σ 95 := rr 95 (by omega)
    have rr96 : gI σ1 96 = gI σ 96 := rr 96 (by omega)
    have rr97 : gI σ1 97 = gI σ 97 := rr 97 (by omega)
    have rr98 : gI σ1 98 = gI σ 98 := rr 98 (by omega)
    have rr99 : gI σ1 99 = gI σ 99 := rr 99 (by omega)
    have rr100 : gI σ1 100 = gI σ 100 := rr 100 (by omega)
    have rr103 : gI σ1 103 = gI σ 103 := rr 103 (by omega)
    have rr104 : gI σ1 104 = gI σ 104 := rr 104 (by omega)
    have rr105 : gI σ1 105 = gI σ 105 := rr 105 (by omega)
    have hown : ∀ o p net, rOwn σ1 o p net = rOwn σ o p net := fun o p net => congrFun (rOwn_cg (p := p) (net := net) hq) o
    have htl : ∀ t net wk, rTl σ1 t net wk = rTl σ t net wk := fun t net wk => rTl_cg rr91
    have hrn : ∀ net k, RQ (runS σ1 net np no k) (runS σ net np no k) := fun net k => runS_cg (RQ_00 hq) hI.2.1.2.1.1.2.2 k
    have hrn1 : ∀ net k t o, rRest (runS σ1 net np no k) t o = rRest (runS σ net np no k) t o := fun net k t o => rRest_cg (hrn net k)
    have hrn2 : ∀ net k, gI (runS σ1 net np no k) 94 = gI (runS σ net np no k) 94 := fun net k => (hrn net k).2.1
    have hrn3 : ∀ net k, gI (runS σ1 net np no k) 95 = gI (runS σ net np no k) 95 := fun net k => (hrn net k).2.2.1
    have hrn4 : ∀ net k, anyO (runS σ1 net np no k) no = anyO (runS σ net np no k) no := fun net k => anyO_cg (hrn net k) no
    refine M_order_2 hd hI1 ho (fun σ2 r2 => ?_)
    try simp only [rr91, rr94, rr95, rr96, rr97, rr98, rr99, rr100, rr103, rr104, rr105, rr89, rPay_cg hq, rIn_cg hq, rLive_cg hq, rRest_cg hq, rFloor_cg hq, rAt_cg hq, hown, htl, hrn1, hrn2, hrn3, hrn4]
    exact h σ2 r2
  · refine RO_p2 (by decide) hI (fun Rt h => X_order_3 hd hI ho h) (fun σ1 hI1 hq rr Rt h => ?_)
    have rr89 : gI σ1 89 = gI σ 89 := rr 89 (by omega)
    have rr91 : gI σ1 91 = gI σ 91 := rr 91 (by omega)
    have rr94 : gI σ1 94 = gI σ 94 := rr 94 (by omega)
    have rr95 : gI σ1 95 = gI σ 95 := rr 95 (by omega)
    have rr96 : gI σ1 96 = gI σ 96 := rr 96 (by omega)
    have rr97 : gI σ1 97 = gI σ 97 := rr 97 (by omega)
    have rr98 : gI σ1 98 = gI σ 98 := rr 98 (by omega)
    have rr99 : gI σ1 99 = gI σ 99 := rr 99 (by omega)
    have rr100 : gI σ1 100 = gI σ 100 := rr 100 (by omega)
    have rr103 : gI σ1 103 = gI σ 103 := rr 103 (by omega)
    have rr104 : gI σ1 104 = gI σ 104 := rr 104 (by omega)
    have rr105 : gI σ1 105 = gI σ 105 := rr 105 (by omega)
    have hown : ∀ o p net, rOwn σ1 o p net = rOwn σ o p net := fun o p net => congrFun (rOwn_cg (p := p) (net := net) hq) o
    have htl : ∀ t net wk, rTl σ1 t net wk = rTl σ t net wk := fun t net wk => rTl_cg rr91
    have hrn : ∀ net k, RQ (runS σ1 net np no k) (runS σ net np no k) := fun net k => runS_cg (RQ_00 hq) hI.2.1.2.1.1.2.2 k
    have hrn1 : ∀ net k t o, rRest (runS σ1 net np no k) t o = rRest (runS σ net np no k) t o := fun net k t o => rRest_cg (hrn net k)
    have hrn2 : ∀ net k, gI (runS σ1 net np no k) 94 = gI (runS σ net np no k) 94 := fun net k => (hrn net k).2.1
    have hrn3 : ∀ net k, gI (runS σ1 net np no k) 95 = gI (runS σ net np no k) 95 := fun net k => (hrn net k).2.2.1
    have hrn4 : ∀ net k, anyO (runS σ1 net np no k) no = anyO (runS σ net np no k) no := fun net k => anyO_cg (hrn net k) no
    refine M_order_3 hd hI1 ho (fun σ2 r2 => ?_)
    try simp only [rr91, rr94, rr95, rr96, rr97, rr98, rr99, rr100, rr103, rr104, rr105, rr89, rPay_cg hq, rIn_cg hq, rLive_cg hq, rRest_cg hq, rFloor_cg hq, rAt_cg hq, hown, htl, hrn1, hrn2, hrn3, hrn4]
    exact h σ2 r2
  · refine RO_p2 (by decide) hI (fun Rt h => X_order_4 hd hI ho h) (fun σ1 hI1 hq rr Rt h => ?_)
    have rr89 : gI σ1 89 = gI σ 89 := rr 89 (by omega)
    have rr91 : gI σ1 91 = gI σ 91 := rr 91 (by omega)
    have rr94 : gI σ1 94 = gI σ 94 := rr 94 (by omega)
    have rr95 : gI σ1 95 = gI σ 95 := rr 95 (by omega)
    have rr96 : gI σ1 96 = gI σ 96 := rr 96 (by omega)
    have rr97 : gI σ1 97 = gI σ 97 := rr 97 (by omega)
    have rr98 : gI σ1 98 = gI σ 98 := rr 98 (by omega)
    have rr99 : gI σ1 99 = gI σ 99 := rr 99 (by omega)
    have rr100 : gI σ1 100 = gI σ 100 := rr 100 (by omega)
    have rr103 : gI σ1 103 = gI σ 103 := rr 103 (by omega)
    have rr104 : gI σ1 104 = gI σ 104 := rr 104 (by omega)
    have rr105 : gI σ1 105 = gI σ 105 := rr 105 (by omega)
    have hown : ∀ o p net, rOwn σ1 o p net = rOwn σ o p net := fun o p net => congrFun (rOwn_cg (p := p) (net := net) hq) o
    have htl : ∀ t net wk, rTl σ1 t net wk = rTl σ t net wk := fun t net wk => rTl_cg rr91
    have hrn : ∀ net k, RQ (runS σ1 net np no k) (runS σ net np no k) := fun net k => runS_cg (RQ_00 hq) hI.2.1.2.1.1.2.2 k
    have hrn1 : ∀ net k t o, rRest (runS σ1 net np no k) t o = rRest (runS σ net np no k) t o := fun net k t o => rRest_cg (hrn net k)
    have hrn2 : ∀ net k, gI (runS σ1 net np no k) 94 = gI (runS σ net np no k) 94 := fun net k => (hrn net k).2.1
    have hrn3 : ∀ net k, gI (runS σ1 net np no k) 95 = gI (runS σ net np no k) 95 := fun net k => (hrn net k).2.2.1
    have hrn4 : ∀ net k, anyO (runS σ1 net np no k) no = anyO (runS σ net np no k) no := fun net k => anyO_cg (hrn net k) no
    refine M_order_4 hd hI1 ho (fun σ2 r2 => ?_)
    try simp only [rr91, rr94, rr95, rr96, rr97, rr98, rr99, rr100, rr103, rr104, rr105, rr89, rPay_cg hq, rIn_cg hq, rLive_cg hq, rRest_cg hq, rFloor_cg hq, rAt_cg hq, hown, htl, hrn1, hrn2, hrn3, hrn4]
    exact h σ2 r2
  · refine RO_p2 (by decide) hI (fun Rt h => X_order_5 hd hI ho h) (fun σ1 hI1 hq rr Rt h => ?_)
    have rr89 : gI σ1 89 = gI σ 89 := rr 89 (by omega)
    have rr91 : gI σ1 91 = gI σ 91 := rr 91 (by omega)
    have rr94 : gI σ1 94 = gI σ 94 := rr 94 (by omega)
    have rr95 : gI σ1 95 = gI σ 95 := rr 95 (by omega)
    have rr96 : gI σ1 96 = gI σ 96 := rr 96 (by omega)
    have rr97 : gI σ1 97 = gI σ 97 := rr 97 (by omega)
    have rr98 : gI σ1 98 = gI σ 98 := rr 98 (by omega)
    have rr99 : gI σ1 99 = gI σ 99 := rr 99 (by omega)
    have rr100 : gI σ1 100 = gI σ 100 := rr 100 (by omega)
    have rr103 : gI σ1 103 = gI σ 103 := rr 103 (by omega)
    have rr104 : gI σ1 104 = gI σ 104 := rr 104 (by omega)
    have rr105 : gI σ1 105 = gI σ 105 := rr 105 (by omega)
    have hown : ∀ o p net, rOwn σ1 o p net = rOwn σ o p net := fun o p net => congrFun (rOwn_cg (p := p) (net := net) hq) o
    have htl : ∀ t net wk, rTl σ1 t net wk = rTl σ t net wk := fun t net wk => rTl_cg rr91
    have hrn : ∀ net k, RQ (runS σ1 net np no k) (runS σ net np no k) := fun net k => runS_cg (RQ_00 hq) hI.2.1.2.1.1.2.2 k
    have hrn1 : ∀ net k t o, rRest (runS σ1 net np no k) t o = rRest (runS σ net np no k) t o := fun net k t o => rRest_cg (hrn net k)
    have hrn2 : ∀ net k, gI (runS σ1 net np no k) 94 = gI (runS σ net np no k) 94 := fun net k => (hrn net k).2.1
    have hrn3 : ∀ net k, gI (runS σ1 net np no k) 95 = gI (runS σ net np no k) 95 := fun net k => (hrn net k).2.2.1
    have hrn4 : ∀ net k, anyO (runS σ1 net np no k) no = anyO (runS σ net np no k) no := fun net k => anyO_cg (hrn net k) no
    refine M_order_5 hd hI1 ho (fun σ2 r2 => ?_)
    try simp only [rr91, rr94, rr95, rr96, rr97, rr98, rr99, rr100, rr103, rr104, rr105, rr89, rPay_cg hq, rIn_cg hq, rLive_cg hq, rRest_cg hq, rFloor_cg hq, rAt_cg hq, hown, htl, hrn1, hrn2, hrn3, hrn4]
    exact h σ2 r2
  · refine RO_p2 (by decide) hI (fun Rt h => X_order_6 hd hI ho h) (fun σ1 hI1 hq rr Rt h => ?_)
    have rr89 : gI σ1 89 = gI σ 89 := rr 89 (by omega)
    have rr91 : gI σ1 91 = gI σ 91 := rr 91 (by omega)
    have rr94 : gI σ1 94 = gI σ 94 := rr 94 (by omega)
    have rr95 : gI σ1 95 = gI σ 95 := rr 95 (by omega)
    have rr96 : gI σ1 96 = gI σ 96 := rr 96 (by omega)
    have rr97 : gI σ1 97 = gI σ 97 := rr 97 (by omega)
    have rr98 : gI σ1 98 = gI σ 98 := rr 98 (by omega)
    have rr99 : gI σ1 99 = gI σ 99 := rr 99 (by omega)
    have rr100 : gI σ1 100 = gI σ 100 := rr 100 (by omega)
    have rr103 : gI σ1 103 = gI σ 103 := rr 103 (by omega)
    have rr104 : gI σ1 104 = gI σ 104 := rr 104 (by omega)
    have rr105 : gI σ1 105 = gI σ 105 := rr 105 (by omega)
    have hown : ∀ o p net, rOwn σ1 o p net = rOwn σ o p net := fun o p net => congrFun (rOwn_cg (p := p) (net := net) hq) o
    have htl : ∀ t net wk, rTl σ1 t net wk = rTl σ t net wk := fun t net wk => rTl_cg rr91
    have hrn : ∀ net k, RQ (runS σ1 net np no k) (runS σ net np no k) := fun net k => runS_cg (RQ_00 hq) hI.2.1.2.1.1.2.2 k
    have hrn1 : ∀ net k t o, rRest (runS σ1 net np no k) t o = rRest (runS σ net np no k) t o := fun net k t o => rRest_cg (hrn net k)
    have hrn2 : ∀ net k, gI (runS σ1 net np no k) 94 = gI (runS σ net np no k) 94 := fun net k => (hrn net k).2.1
    have hrn3 : ∀ net k, gI (runS σ1 net np no k) 95 = gI (runS σ net np no k) 95 := fun net k => (hrn net k).2.2.1
    have hrn4 : ∀ net k, anyO (runS σ1 net np no k) no = anyO (runS σ net np no k) no := fun net k => anyO_cg (hrn net k) no
    refine M_order_6 hd hI1 ho (fun σ2 r2 => ?_)
    try simp only [rr91, rr94, rr95, rr96, rr97, rr98, rr99, rr100, rr103, rr104, rr105, rr89, rPay_cg hq, rIn_cg hq, rLive_cg hq, rRest_cg hq, rFloor_cg hq, rAt_cg hq, hown, htl, hrn1, hrn2, hrn3, hrn4]
    exact h σ2 r2
  · refine RO_p2 (by decide) hI (fun Rt h => X_order_7 hd hI ho h) (fun σ1 hI1 hq rr Rt h => ?_)
    have rr89 : gI σ1 89 = gI σ 89 := rr 89 (by omega)
    have rr91 : gI σ1 91 = gI σ 91 := rr 91 (by omega)
    have rr94 : gI σ1 94 = gI σ 94 := rr 94 (by omega)
    have rr95 : gI σ1 95 = gI σ 95 := rr 95 (by omega)
    have rr96 : gI σ1 96 = gI σ 96 := rr 96 (by omega)
    have rr97 : gI σ1 97 = gI σ 97 := rr 97 (by omega)
    have rr98 : gI σ1 98 = gI σ 98 := rr 98 (by omega)
    have rr99 : gI σ1 99 = gI σ 99 := rr 99 (by omega)
    have rr100 : gI σ1 100 = gI σ 100 := rr 100 (by omega)
    have rr103 : gI σ1 103 = gI σ 103 := rr 103 (by omega)
    have rr104 : gI σ1 104 = gI σ 104 := rr 104 (by omega)
    have rr105 : gI σ1 105 = gI σ 105 := rr 105 (by omega)
    have hown : ∀ o p net, rOwn σ1 o p net = rOwn σ o p net := fun o p net => congrFun (rOwn_cg (p := p) (net := net) hq) o
    have htl : ∀ t net wk, rTl σ1 t net wk = rTl σ t net wk := fun t net wk => rTl_cg rr91
    have hrn : ∀ net k, RQ (runS σ1 net np no k) (runS σ net np no k) := fun net k => runS_cg (RQ_00 hq) hI.2.1.2.1.1.2.2 k
    have hrn1 : ∀ net k t o, rRest (runS σ1 net np no k) t o = rRest (runS σ net np no k) t o := fun net k t o => rRest_cg (hrn net k)
    have hrn2 : ∀ net k, gI (runS σ1 net np no k) 94 = gI (runS σ net np no k) 94 := fun net k => (hrn net k).2.1
    have hrn3 : ∀ net k, gI (runS σ1 net np no k) 95 = gI (runS σ net np no k) 95 := fun net k => (hrn net k).2.2.1
    have hrn4 : ∀ net k, anyO (runS σ1 net np no k) no = anyO (runS σ net np no k) no := fun net k => anyO_cg (hrn net k) no
    refine M_order_7 hd hI1 ho (fun σ2 r2 => ?_)
    try simp only [rr91, rr94, rr95, rr96, rr97, rr98, rr99, rr100, rr103, rr104, rr105, rr89, rPay_cg hq, rIn_cg hq, rLive_cg hq, rRest_cg hq, rFloor_cg hq, rAt_cg hq, hown, htl, hrn1, hrn2, hrn3, hrn4]
    exact h σ2 r2
  · refine RO_p2 (by decide) hI (fun Rt h => X_order_8 hd hI ho h) (fun σ1 hI1 hq rr Rt h => ?_)
    have rr89 : gI σ1 89 = gI σ 89 := rr 89 (by omega)
    have rr91 : gI σ1 91 = gI σ 91 := rr 91 (by omega)
    have rr94 : gI σ1 94 = gI σ 94 := rr 94 (by omega)
    have rr95 : gI σ1 95 = gI σ 95 := rr 95 (by omega)
    have rr96 : gI σ1 96 = gI σ 96 := rr 96 (by omega)
    have rr97 : gI σ1 97 = gI σ 97 := rr 97 (by omega)
    have rr98 : gI σ1 98 = gI σ 98 := rr 98 (by omega)
    have rr99 : gI σ1 99 = gI σ 99 := rr 99 (by omega)
    have rr100 : gI σ1 100 = gI σ 100 := rr 100 (by omega)
    have rr103 : gI σ1 103 = gI σ 103 := rr 103 (by omega)
    have rr104 : gI σ1 104 = gI σ 104 := rr 104 (by omega)
    have rr105 : gI σ1 105 = gI σ 105 := rr 105 (by omega)
    have hown : ∀ o p net, rOwn σ1 o p net = rOwn σ o p net := fun o p net => congrFun (rOwn_cg (p := p) (net := net) hq) o
    have htl : ∀ t net wk, rTl σ1 t net wk = rTl σ t net wk := fun t net wk => rTl_cg rr91
    have hrn : ∀ net k, RQ (runS σ1 net np no k) (runS σ net np no k) := fun net k => runS_cg (RQ_00 hq) hI.2.1.2.1.1.2.2 k
    have hrn1 : ∀ net k t o, rRest (runS σ1 net np no k) t o = rRest (runS σ net np no k) t o := fun net k t o => rRest_cg (hrn net k)
    have hrn2 : ∀ net k, gI (runS σ1 net np no k) 94 = gI (runS σ net np no k) 94 := fun net k => (hrn net k).2.1
    have hrn3 : ∀ net k, gI (runS σ1 net np no k) 95 = gI (runS σ net np no k) 95 := fun net k => (hrn net k).2.2.1
    have hrn4 : ∀ net k, anyO (runS σ1 net np no k) no = anyO (runS σ net np no k) no := fun net k => anyO_cg (hrn net k) no
    refine M_order_8 hd hI1 ho (fun σ2 r2 => ?_)
    try simp only [rr91, rr94, rr95, rr96, rr97, rr98, rr99, rr100, rr103, rr104, rr105, rr89, rPay_cg hq, rIn_cg hq, rLive_cg hq, rRest_cg hq, rFloor_cg hq, rAt_cg hq, hown, htl, hrn1, hrn2, hrn3, hrn4]
    exact h σ2 r2
  · cases hl : rLive σ 0 o
    · refine RO_p2 (by decide) hI (fun Rt h => X_order_9f hd hI ho hl h) (fun σ1 hI1 hq rr Rt h => ?_)
      have rr89 : gI σ1 89 = gI σ 89 := rr 89 (by omega)
      have rr91 : gI σ1 91 = gI σ 91 := rr 91 (by omega)
      have rr94 : gI σ1 94 = gI σ 94 := rr 94 (by omega)
      have rr95 : gI σ1 95 = gI σ 95 := rr 95 (by omega)
      have rr96 : gI σ1 96 = gI σ 96 := rr 96 (by omega)
      have rr97 : gI σ1 97 = gI σ 97 := rr 97 (by omega)
      have rr98 : gI σ1 98 = gI σ 98 := rr 98 (by omega)
      have rr99 : gI σ1 99 = gI σ 99 := rr 99 (by omega)
      have rr100 : gI σ1 100 = gI σ 100 := rr 100 (by omega)
      have rr103 : gI σ1 103 = gI σ 103 := rr 103 (by omega)
      have rr104 : gI σ1 104 = gI σ 104 := rr 104 (by omega)
      have rr105 : gI σ1 105 = gI σ 105 := rr 105 (by omega)
      have hown : ∀ o p net, rOwn σ1 o p net = rOwn σ o p net := fun o p net => congrFun (rOwn_cg (p := p) (net := net) hq) o
      have htl : ∀ t net wk, rTl σ1 t net wk = rTl σ t net wk := fun t net wk => rTl_cg rr91
      have hrn : ∀ net k, RQ (runS σ1 net np no k) (runS σ net np no k) := fun net k => runS_cg (RQ_00 hq) hI.2.1.2.1.1.2.2 k
      have hrn1 : ∀ net k t o, rRest (runS σ1 net np no k) t o = rRest (runS σ net np no k) t o := fun net k t o => rRest_cg (hrn net k)
      have hrn2 : ∀ net k, gI (runS σ1 net np no k) 94 = gI (runS σ net np no k) 94 := fun net k => (hrn net k).2.1
      have hrn3 : ∀ net k, gI (runS σ1 net np no k) 95 = gI (runS σ net np no k) 95 := fun net k => (hrn net k).2.2.1
      have hrn4 : ∀ net k, anyO (runS σ1 net np no k) no = anyO (runS σ net np no k) no := fun net k => anyO_cg (hrn net k) no
      have hl' := hl
      try simp only [← rr91, ← rr94, ← rr95, ← rr96, ← rr100, ← rLive_cg hq, ← rRest_cg hq, ← rIn_cg hq] at hl'
      refine M_order_9f hd hI1 ho hl' (fun σ2 r2 => ?_)
      try simp only [rr91, rr94, rr95, rr96, rr97, rr98, rr99, rr100, rr103, rr104, rr105, rr89, rPay_cg hq, rIn_cg hq, rLive_cg hq, rRest_cg hq, rFloor_cg hq, rAt_cg hq, hown, htl, hrn1, hrn2, hrn3, hrn4]
      exact h σ2 r2
    · refine RO_p2 (by decide) hI (fun Rt h => X_order_9t hd hI ho hl h) (fun σ1 hI1 hq rr Rt h => ?_)
      have rr89 : gI σ1 89 = gI σ 89 := rr 89 (by omega)
      have rr91 : gI σ1 91 = gI σ 91 := rr 91 (by omega)
      have rr94 : gI σ1 94 = gI σ 94 := rr 94 (by omega)
      have rr95 : gI σ1 95 = gI σ 95 := rr 95 (by omega)
      have rr96 : gI σ1 96 = gI σ 96 := rr 96 (by omega)
      have rr97 : gI σ1 97 = gI σ 97 := rr 97 (by omega)
      have rr98 : gI σ1 98 = gI σ 98 := rr 98 (by omega)
      have rr99 : gI σ1 99 = gI σ 99 := rr 99 (by omega)
      have rr100 : gI σ1 100 = gI σ 100 := rr 100 (by omega)
      have rr103 : gI σ1 103 = gI σ 103 := rr 103 (by omega)
      have rr104 : gI σ1 104 = gI σ 104 := rr 104 (by omega)
      have rr105 : gI σ1 105 = gI σ 105 := rr 105 (by omega)
      have hown : ∀ o p net, rOwn σ1 o p net = rOwn σ o p net := fun o p net => congrFun (rOwn_cg (p := p) (net := net) hq) o
      have htl : ∀ t net wk, rTl σ1 t net wk = rTl σ t net wk := fun t net wk => rTl_cg rr91
      have hrn : ∀ net k, RQ (runS σ1 net np no k) (runS σ net np no k) := fun net k => runS_cg (RQ_00 hq) hI.2.1.2.1.1.2.2 k
      have hrn1 : ∀ net k t o, rRest (runS σ1 net np no k) t o = rRest (runS σ net np no k) t o := fun net k t o => rRest_cg (hrn net k)
      have hrn2 : ∀ net k, gI (runS σ1 net np no k) 94 = gI (runS σ net np no k) 94 := fun net k => (hrn net k).2.1
      have hrn3 : ∀ net k, gI (runS σ1 net np no k) 95 = gI (runS σ net np no k) 95 := fun net k => (hrn net k).2.2.1
      have hrn4 : ∀ net k, anyO (runS σ1 net np no k) no = anyO (runS σ net np no k) no := fun net k => anyO_cg (hrn net k) no
      have hl' := hl
      try simp only [← rr91, ← rr94, ← rr95, ← rr96, ← rr100, ← rLive_cg hq, ← rRest_cg hq, ← rIn_cg hq] at hl'
      refine M_order_9t hd hI1 ho hl' (fun σ2 r2 => ?_)
      try simp only [rr91, rr94, rr95, rr96, rr97, rr98, rr99, rr100, rr103, rr104, rr105, rr89, rPay_cg hq, rIn_cg hq, rLive_cg hq, rRest_cg hq, rFloor_cg hq, rAt_cg hq, hown, htl, hrn1, hrn2, hrn3, hrn4]
      exact h σ2 r2
  · rcases hOB.2.2.2.2.1 with hl | hl
    · refine RO_p2 (by decide) hI (fun Rt h => X_order_10f hd hI ho hl h) (fun σ1 hI1 hq rr Rt h => ?_)
      have rr89 : gI σ1 89 = gI σ 89 := rr 89 (by omega)
      have rr91 : gI σ1 91 = gI σ 91 := rr 91 (by omega)
      have rr94 : gI σ1 94 = gI σ 94 := rr 94 (by omega)
      have rr95 : gI σ1 95 = gI σ 95 := rr 95 (by omega)
      have rr96 : gI σ1 96 = gI σ 96 := rr 96 (by omega)
      have rr97 : gI σ1 97 = gI σ 97 := rr 97 (by omega)
      have rr98 : gI σ1 98 = gI σ 98 := rr 98 (by omega)
      have rr99 : gI σ1 99 = gI σ 99 := rr 99 (by omega)
      have rr100 : gI σ1 100 = gI σ 100 := rr 100 (by omega)
      have rr103 : gI σ1 103 = gI σ 103 := rr 103 (by omega)
      have rr104 : gI σ1 104 = gI σ 104 := rr 104 (by omega)
      have rr105 : gI σ1 105 = gI σ 105 := rr 105 (by omega)
      have hown : ∀ o p net, rOwn σ1 o p net = rOwn σ o p net := fun o p net => congrFun (rOwn_cg (p := p) (net := net) hq) o
      have htl : ∀ t net wk, rTl σ1 t net wk = rTl σ t net wk := fun t net wk => rTl_cg rr91
      have hrn : ∀ net k, RQ (runS σ1 net np no k) (runS σ net np no k) := fun net k => runS_cg (RQ_00 hq) hI.2.1.2.1.1.2.2 k
      have hrn1 : ∀ net k t o, rRest (runS σ1 net np no k) t o = rRest (runS σ net np no k) t o := fun net k t o => rRest_cg (hrn net k)
      have hrn2 : ∀ net k, gI (runS σ1 net np no k) 94 = gI (runS σ net np no k) 94 := fun net k => (hrn net k).2.1
      have hrn3 : ∀ net k, gI (runS σ1 net np no k) 95 = gI (runS σ net np no k) 95 := fun net k => (hrn net k).2.2.1
      have hrn4 : ∀ net k, anyO (runS σ1 net np no k) no = anyO (runS σ net np no k) no := fun net k => anyO_cg (hrn net k) no
      have hl' := hl
      try simp only [← rr91, ← rr94, ← rr95, ← rr96, ← rr100, ← rLive_cg hq, ← rRest_cg hq, ← rIn_cg hq] at hl'
      refine M_order_10f hd hI1 ho hl' (fun σ2 r2 => ?_)
      try simp only [rr91, rr94, rr95, rr96, rr97, rr98, rr99, rr100, rr103, rr104, rr105, rr89, rPay_cg hq, rIn_cg hq, rLive_cg hq, rRest_cg hq, rFloor_cg hq, rAt_cg hq, hown, htl, hrn1, hrn2, hrn3, hrn4]
      exact h σ2 r2
    · refine RO_p2 (by decide) hI (fun Rt h => X_order_10t hd hI ho hl h) (fun σ1 hI1 hq rr Rt h => ?_)
      have rr89 : gI σ1 89 = gI σ 89 := rr 89 (by omega)
      have rr91 : gI σ1 91 = gI σ 91 := rr 91 (by omega)
      have rr94 : gI σ1 94 = gI σ 94 := rr 94 (by omega)
      have rr95 : gI σ1 95 = gI σ 95 := rr 95 (by omega)
      have rr96 : gI σ1 96 = gI σ 96 := rr 96 (by omega)
      have rr97 : gI σ1 97 = gI σ 97 := rr 97 (by omega)
      have rr98 : gI σ1 98 = gI σ 98 := rr 98 (by omega)
      have rr99 : gI σ1 99 = gI σ 99 := rr 99 (by omega)
      have rr100 : gI σ1 100 = gI σ 100 := rr 100 (by omega)
      have rr103 : gI σ1 103 = gI σ 103 := rr 103 (by omega)
      have rr104 : gI σ1 104 = gI σ 104 := rr 104 (by omega)
      have rr105 : gI σ1 105 = gI σ 105 := rr 105 (by omega)
      have hown : ∀ o p net, rOwn σ1 o p net = rOwn σ o p net := fun o p net => congrFun (rOwn_cg (p := p) (net := net) hq) o
      have htl : ∀ t net wk, rTl σ1 t net wk = rTl σ t net wk := fun t net wk => rTl_cg rr91
      have hrn : ∀ net k, RQ (runS σ1 net np no k) (runS σ net np no k) := fun net k => runS_cg (RQ_00 hq) hI.2.1.2.1.1.2.2 k
      have hrn1 : ∀ net k t o, rRest (runS σ1 net np no k) t o = rRest (runS σ net np no k) t o := fun net k t o => rRest_cg (hrn net k)
      have hrn2 : ∀ net k, gI (runS σ1 net np no k) 94 = gI (runS σ net np no k) 94 := fun net k => (hrn net k).2.1
      have hrn3 : ∀ net k, gI (runS σ1 net np no k) 95 = gI (runS σ net np no k) 95 := fun net k => (hrn net k).2.2.1
      have hrn4 : ∀ net k, anyO (runS σ1 net np no k) no = anyO (runS σ net np no k) no := fun net k => anyO_cg (hrn net k) no
      have hl' := hl
      try simp only [← rr91, ← rr94, ← rr95, ← rr96, ← rr100, ← rLive_cg hq, ← rRest_cg hq, ← rIn_cg hq] at hl'
      refine M_order_10t hd hI1 ho hl' (fun σ2 r2 => ?_)
      try simp only [rr91, rr94, rr95, rr96, rr97, rr98, rr99, rr100, rr103, rr104, rr105, rr89, rPay_cg hq, rIn_cg hq, rLive_cg hq, rRest_cg hq, rFloor_cg hq, rAt_cg hq, hown, htl, hrn1, hrn2, hrn3, hrn4]
      exact h σ2 r2
  · refine RO_p2 (by decide) hI (fun Rt h => X_order_11 hd hI ho h) (fun σ1 hI1 hq rr Rt h => ?_)
    have rr89 : gI σ1 89 = gI σ 89 := rr 89 (by omega)
    have rr91 : gI σ1 91 = gI σ 91 := rr 91 (by omega)
    have rr94 : gI σ1 94 = gI σ 94 := rr 94 (by omega)
    have rr95 : gI σ1 95 = gI σ 95 := rr 95 (by omega)
    have rr96 : gI σ1 96 = gI σ 96 := rr 96 (by omega)
    have rr97 : gI σ1 97 = gI σ 97 := rr 97 (by omega)
    have rr98 : gI σ1 98 = gI σ 98 := rr 98 (by omega)
    have rr99 : gI σ1 99 = gI σ 99 := rr 99 (by omega)
    have rr100 : gI σ1 100 = gI σ 100 := rr 100 (by omega)
    have rr103 : gI σ1 103 = gI σ 103 := rr 103 (by omega)
    have rr104 : gI σ1 104 = gI σ 104 := rr 104 (by omega)
    have rr105 : gI σ1 105 = gI σ 105 := rr 105 (by omega)
    have hown : ∀ o p net, rOwn σ1 o p net = rOwn σ o p net := fun o p net => congrFun (rOwn_cg (p := p) (net := net) hq) o
    have htl : ∀ t net wk, rTl σ1 t net wk = rTl σ t net wk := fun t net wk => rTl_cg rr91
    have hrn : ∀ net k, RQ (runS σ1 net np no k) (runS σ net np no k) := fun net k => runS_cg (RQ_00 hq) hI.2.1.2.1.1.2.2 k
    have hrn1 : ∀ net k t o, rRest (runS σ1 net np no k) t o = rRest (runS σ net np no k) t o := fun net k t o => rRest_cg (hrn net k)
    have hrn2 : ∀ net k, gI (runS σ1 net np no k) 94 = gI (runS σ net np no k) 94 := fun net k => (hrn net k).2.1
    have hrn3 : ∀ net k, gI (runS σ1 net np no k) 95 = gI (runS σ net np no k) 95 := fun net k => (hrn net k).2.2.1
    have hrn4 : ∀ net k, anyO (runS σ1 net np no k) no = anyO (runS σ net np no k) no := fun net k => anyO_cg (hrn net k) no
    refine M_order_11 hd hI1 ho (fun σ2 r2 => ?_)
    try simp only [rr91, rr94, rr95, rr96, rr97, rr98, rr99, rr100, rr103, rr104, rr105, rr89, rPay_cg hq, rIn_cg hq, rLive_cg hq, rRest_cg hq, rFloor_cg hq, rAt_cg hq, hown, htl, hrn1, hrn2, hrn3, hrn4]
    exact h σ2 r2
theorem PC_about (hd : 14 ≤ d) (hI : InvB σ b b' nt np no K nx T (999999 * c)) (hc : c ≤ 512) : Pair d q_X9_about q_X10_about [.ref 0, .int what] [.ref 89, .int what] σ (fun σ2 => INV σ2 (c + 1)) := by
  have hb1 := hI.2.1.2.1.1
  have hB : (999999 * (c : Int)) ≤ 1000000000 := by omega
  by_cases hp : 0 < np
  rotate_left
  · have hp0 : np = 0 := by omega
    · refine RO_p2 (by decide) hI (fun Rt h => X_about_n hd hI hp0 h) (fun σ1 hI1 hq rr Rt h => ?_)
      have rr89 : gI σ1 89 = gI σ 89 := rr 89 (by omega)
      have rr91 : gI σ1 91 = gI σ 91 := rr 91 (by omega)
      have rr94 : gI σ1 94 = gI σ 94 := rr 94 (by omega)
      have rr95 : gI σ1 95 = gI σ 95 := rr 95 (by omega)
      have rr96 : gI σ1 96 = gI σ 96 := rr 96 (by omega)
      have rr97 : gI σ1 97 = gI σ 97 := rr 97 (by omega)
      have rr98 : gI σ1 98 = gI σ 98 := rr 98 (by omega)
      have rr99 : gI σ1 99 = gI σ 99 := rr 99 (by omega)
      have rr100 : gI σ1 100 = gI σ 100 := rr 100 (by omega)
      have rr103 : gI σ1 103 = gI σ 103 := rr 103 (by omega)
      have rr104 : gI σ1 104 = gI σ 104 := rr 104 (by omega)
      have rr105 : gI σ1 105 = gI σ 105 := rr 105 (by omega)
      have hown : ∀ o p net, rOwn σ1 o p net = rOwn σ o p net := fun o p net => congrFun (rOwn_cg (p := p) (net := net) hq) o
      have htl : ∀ t net wk, rTl σ1 t net wk = rTl σ t net wk := fun t net wk => rTl_cg rr91
      have hrn : ∀ net k, RQ (runS σ1 net np no k) (runS σ net np no k) := fun net k => runS_cg (RQ_00 hq) hI.2.1.2.1.1.2.2 k
      have hrn1 : ∀ net k t o, rRest (runS σ1 net np no k) t o = rRest (runS σ net np no k) t o := fun net k t o => rRest_cg (hrn net k)
      have hrn2 : ∀ net k, gI (runS σ1 net np no k) 94 = gI (runS σ net np no k) 94 := fun net k => (hrn net k).2.1
      have hrn3 : ∀ net k, gI (runS σ1 net np no k) 95 = gI (runS σ net np no k) 95 := fun net k => (hrn net k).2.2.1
      have hrn4 : ∀ net k, anyO (runS σ1 net np no k) no = anyO (runS σ net np no k) no := fun net k => anyO_cg (hrn net k) no
      refine M_about_n hd hI1 hp0 (fun σ2 r2 => ?_)
      try simp only [rr91, rr94, rr95, rr96, rr97, rr98, rr99, rr100, rr103, rr104, rr105, rr89, rPay_cg hq, rIn_cg hq, rLive_cg hq, rRest_cg hq, rFloor_cg hq, rAt_cg hq, hown, htl, hrn1, hrn2, hrn3, hrn4]
      exact h σ2 r2
  by_cases hw : 0 ≤ what ∧ what ≤ 11
  rotate_left
  · refine RO_p2 (by decide) hI (fun Rt h => X_about_w hd hI hp hw h) (fun σ1 hI1 hq rr Rt h => ?_)
    have rr89 : gI σ1 89 = gI σ 89 := rr 89 (by omega)
    have rr91 : gI σ1 91 = gI σ 91 := rr 91 (by omega)
    have rr94 : gI σ1 94 = gI σ 94 := rr 94 (by omega)
    have rr95 : gI σ1 95 = gI σ 95 := rr 95 (by omega)
    have rr96 : gI σ1 96 = gI σ 96 := rr 96 (by omega)
    have rr97 : gI σ1 97 = gI σ 97 := rr 97 (by omega)
    have rr98 : gI σ1 98 = gI σ 98 := rr 98 (by omega)
    have rr99 : gI σ1 99 = gI σ 99 := rr 99 (by omega)
    have rr100 : gI σ1 100 = gI σ 100 := rr 100 (by omega)
    have rr103 : gI σ1 103 = gI σ 103 := rr 103 (by omega)
    have rr104 : gI σ1 104 = gI σ 104 := rr 104 (by omega)
    have rr105 : gI σ1 105 = gI σ 105 := rr 105 (by omega)
    have hown : ∀ o p net, rOwn σ1 o p net = rOwn σ o p net := fun o p net => congrFun (rOwn_cg (p := p) (net := net) hq) o
    have htl : ∀ t net wk, rTl σ1 t net wk = rTl σ t net wk := fun t net wk => rTl_cg rr91
    have hrn : ∀ net k, RQ (runS σ1 net np no k) (runS σ net np no k) := fun net k => runS_cg (RQ_00 hq) hI.2.1.2.1.1.2.2 k
    have hrn1 : ∀ net k t o, rRest (runS σ1 net np no k) t o = rRest (runS σ net np no k) t o := fun net k t o => rRest_cg (hrn net k)
    have hrn2 : ∀ net k, gI (runS σ1 net np no k) 94 = gI (runS σ net np no k) 94 := fun net k => (hrn net k).2.1
    have hrn3 : ∀ net k, gI (runS σ1 net np no k) 95 = gI (runS σ net np no k) 95 := fun net k => (hrn net k).2.2.1
    have hrn4 : ∀ net k, anyO (runS σ1 net np no k) no = anyO (runS σ net np no k) no := fun net k => anyO_cg (hrn net k) no
    refine M_about_w hd hI1 hp hw (fun σ2 r2 => ?_)
    try simp only [rr91, rr94, rr95, rr96, rr97, rr98, rr99, rr100, rr103, rr104, rr105, rr89, rPay_cg hq, rIn_cg hq, rLive_cg hq, rRest_cg hq, rFloor_cg hq, rAt_cg hq, hown, htl, hrn1, hrn2, hrn3, hrn4]
    exact h σ2 r2
  obtain ⟨w, hw1, rfl⟩ := in_le (n := 11) (by omega) hw
  have hw_w : w = 0 ∨ w = 1 ∨ w = 2 ∨ w = 3 ∨ w = 4 ∨ w = 5 ∨ w = 6 ∨ w = 7 ∨ w = 8 ∨ w = 9 ∨ w = 10 ∨ w = 11 := by omega
  rcases hw_w with rfl | rfl | rfl | rfl | rfl | rfl | rfl | rfl | rfl | rfl | rfl | rfl
  · refine RO_p2 (by decide) hI (fun Rt h => X_about_0 hd hI hp h) (fun σ1 hI1 hq rr Rt h => ?_)
    have rr89 : gI σ1 89 = gI σ 89 := rr 89 (by omega)
    have rr91 : gI σ1 91 = gI σ 91 := rr 91 (by omega)
    have rr94 : gI σ1 94 = gI σ 94 := rr 94 (by omega)
    have rr95 : gI σ1 95 = gI σ 95 := rr 95 (by omega)
    have rr96 : gI σ1 96 = gI σ 96 := rr 96 (by omega)
    have rr97 : gI σ1 97 = gI σ 97 := rr 97 (by omega)
    have rr98 : gI σ1 98 = gI σ 98 := rr 98 (by omega)
    have rr99 : gI σ1 99 = gI σ 99 := rr 99 (by omega)
    have rr100 : gI σ1 100 = gI σ 100 := rr 100 (by omega)
    have rr103 : gI σ1 103 = gI σ 103 := rr 103 (by omega)
    have rr104 : gI σ1 104 = gI σ 104 := rr 104 (by omega)
    have rr105 : gI σ1 105 = gI σ 105 := rr 105 (by omega)
    have hown : ∀ o p net, rOwn σ1 o p net = rOwn σ o p net := fun o p net => congrFun (rOwn_cg (p := p) (net := net) hq) o
    have htl : ∀ t net wk, rTl σ1 t net wk = rTl σ t net wk := fun t net wk => rTl_cg rr91
    have hrn : ∀ net k, RQ (runS σ1 net np no k) (runS σ net np no k) := fun net k => runS_cg (RQ_00 hq) hI.2.1.2.1.1.2.2 k
    have hrn1 : ∀ net k t o, rRest (runS σ1 net np no k) t o = rRest (runS σ net np no k) t o := fun net k t o => rRest_cg (hrn net k)
    have hrn2 : ∀ net k, gI (runS σ1 net np no k) 94 = gI (runS σ net np no k) 94 := fun net k => (hrn net k).2.1
    have hrn3 : ∀ net k, gI (runS σ1 net np no k) 95 = gI (runS σ net np no k) 95 := fun net k => (hrn net k).2.2.1
    have hrn4 : ∀ net k, anyO (runS σ1 net np no k) no = anyO (runS σ net np no k) no := fun net k => anyO_cg (hrn net k) no
    refine M_about_0 hd hI1 hp (fun σ2 r2 => ?_)
    try simp only [rr91, rr94, rr95, rr96, rr97, rr98, rr99, rr100, rr103, rr104, rr105, rr89, rPay_cg hq, rIn_cg hq, rLive_cg hq, rRest_cg hq, rFloor_cg hq, rAt_cg hq, hown, htl, hrn1, hrn2, hrn3, hrn4]
    exact h σ2 r2
  · refine RO_p2 (by decide) hI (fun Rt h => X_about_1 hd hI hp h) (fun σ1 hI1 hq rr Rt h => ?_)
    have rr89 : gI σ1 89 = gI σ 89 := rr 89 (by omega)
    have rr91 : gI σ1 91 = gI σ 91 := rr 91 (by omega)
    have rr94 : gI σ1 94 = gI σ 94 := rr 94 (by omega)
    have rr95 : gI σ1 95 = gI σ 95 := rr 95 (by omega)
    have rr96 : gI σ1 96 = gI σ 96 := rr 96 (by omega)
    have rr97 : gI σ1 97 = gI σ 97 := rr 97 (by omega)
    have rr98 : gI σ1 98 = gI σ 98 := rr 98 (by omega)
    have rr99 : gI σ1 99 = gI σ 99 := rr 99 (by omega)
    have rr100 : gI σ1 100 = gI σ 100 := rr 100 (by omega)
    have rr103 : gI σ1 103 = gI σ 103 := rr 103 (by omega)
    have rr104 : gI σ1 104 = gI σ 104 := rr 104 (by omega)
    have rr105 : gI σ1 105 = gI σ 105 := rr 105 (by omega)
    have hown : ∀ o p net, rOwn σ1 o p net = rOwn σ o p net := fun o p net => congrFun (rOwn_cg (p := p) (net := net) hq) o
    have htl : ∀ t net wk, rTl σ1 t net wk = rTl σ t net wk := fun t net wk => rTl_cg rr91
    have hrn : ∀ net k, RQ (runS σ1 net np no k) (runS σ net np no k) := fun net k => runS_cg (RQ_00 hq) hI.2.1.2.1.1.2.2 k
    have hrn1 : ∀ net k t o, rRest (runS σ1 net np no k) t o = rRest (runS σ net np no k) t o := fun net k t o => rRest_cg (hrn net k)
    have hrn2 : ∀ net k, gI (runS σ1 net np no k) 94 = gI (runS σ net np no k) 94 := fun net k => (hrn net k).2.1
    have hrn3 : ∀ net k, gI (runS σ1 net np no k) 95 = gI (runS σ net np no k) 95 := fun net k => (hrn net k).2.2.1
    have hrn4 : ∀ net k, anyO (runS σ1 net np no k) no = anyO (runS σ net np no k) no := fun net k => anyO_cg (hrn net k) no
    refine M_about_1 hd hI1 hp (fun σ2 r2 => ?_)
    try simp only [rr91, rr94, rr95, rr96, rr97, rr98, rr99, rr100, rr103, rr104, rr105, rr89, rPay_cg hq, rIn_cg hq, rLive_cg hq, rRest_cg hq, rFloor_cg hq, rAt_cg hq, hown, htl, hrn1, hrn2, hrn3, hrn4]
    exact h σ2 r2
  · rcases hI.2.1.2.1.2.2.2.2.2.1 with hl | hl
    · refine RO_p2 (by decide) hI (fun Rt h => X_about_20 hd hI hp hl h) (fun σ1 hI1 hq rr Rt h => ?_)
      have rr89 : gI σ1 89 = gI σ 89 := rr 89 (by omega)
      have rr91 : gI σ1 91 = gI σ 91 := rr 91 (by omega)
      have rr94 : gI σ1 94 = gI σ 94 := rr 94 (by omega)
      have rr95 : gI σ1 95 = gI σ 95 := rr 95 (by omega)
      have rr96 : gI σ1 96 = gI σ 96 := rr 96 (by omega)
      have rr97 : gI σ1 97 = gI σ 97 := rr 97 (by omega)
      have rr98 : gI σ1 98 = gI σ 98 := rr 98 (by omega)
      have rr99 : gI σ1 99 = gI σ 99 := rr 99 (by omega)
      have rr100 : gI σ1 100 = gI σ 100 := rr 100 (by omega)
      have rr103 : gI σ1 103 = gI σ 103 := rr 103 (by omega)
      have rr104 : gI σ1 104 = gI σ 104 := rr 104 (by omega)
      have rr105 : gI σ1 105 = gI σ 105 := rr 105 (by omega)
      have hown : ∀ o p net, rOwn σ1 o p net = rOwn σ o p net := fun o p net => congrFun (rOwn_cg (p := p) (net := net) hq) o
      have htl : ∀ t net wk, rTl σ1 t net wk = rTl σ t net wk := fun t net wk => rTl_cg rr91
      have hrn : ∀ net k, RQ (runS σ1 net np no k) (runS σ net np no k) := fun net k => runS_cg (RQ_00 hq) hI.2.1.2.1.1.2.2 k
      have hrn1 : ∀ net k t o, rRest (runS σ1 net np no k) t o = rRest (runS σ net np no k) t o := fun net k t o => rRest_cg (hrn net k)
      have hrn2 : ∀ net k, gI (runS σ1 net np no k) 94 = gI (runS σ net np no k) 94 := fun net k => (hrn net k).2.1
      have hrn3 : ∀ net k, gI (runS σ1 net np no k) 95 = gI (runS σ net np no k) 95 := fun net k => (hrn net k).2.2.1
      have hrn4 : ∀ net k, anyO (runS σ1 net np no k) no = anyO (runS σ net np no k) no := fun net k => anyO_cg (hrn net k) no
      have hl' := hl
      try simp only [← rr91, ← rr94, ← rr95, ← rr96, ← rr100, ← rLive_cg hq, ← rRest_cg hq, ← rIn_cg hq] at hl'
      refine M_about_20 hd hI1 hp hl' (fun σ2 r2 => ?_)
      try simp only [rr91, rr94, rr95, rr96, rr97, rr98, rr99, rr100, rr103, rr104, rr105, rr89, rPay_cg hq, rIn_cg hq, rLive_cg hq, rRest_cg hq, rFloor_cg hq, rAt_cg hq, hown, htl, hrn1, hrn2, hrn3, hrn4]
      exact h σ2 r2
    · refine RO_p2 (by decide) hI (fun Rt h => X_about_21 hd hI hp hl h) (fun σ1 hI1 hq rr Rt h => ?_)
      have rr89 : gI σ1 89 = gI σ 89 := rr 89 (by omega)
      have rr91 : gI σ1 91 = gI σ 91 := rr 91 (by omega)
      have rr94 : gI σ1 94 = gI σ 94 := rr 94 (by omega)
      have rr95 : gI σ1 95 = gI σ 95 := rr 95 (by omega)
      have rr96 : gI σ1 96 = gI σ 96 := rr 96 (by omega)
      have rr97 : gI σ1 97 = gI σ 97 := rr 97 (by omega)
      have rr98 : gI σ1 98 = gI σ 98 := rr 98 (by omega)
      have rr99 : gI σ1 99 = gI σ 99 := rr 99 (by omega)
      have rr100 : gI σ1 100 = gI σ 100 := rr 100 (by omega)
      have rr103 : gI σ1 103 = gI σ 103 := rr 103 (by omega)
      have rr104 : gI σ1 104 = gI σ 104 := rr 104 (by omega)
      have rr105 : gI σ1 105 = gI σ 105 := rr 105 (by omega)
      have hown : ∀ o p net, rOwn σ1 o p net = rOwn σ o p net := fun o p net => congrFun (rOwn_cg (p := p) (net := net) hq) o
      have htl : ∀ t net wk, rTl σ1 t net wk = rTl σ t net wk := fun t net wk => rTl_cg rr91
      have hrn : ∀ net k, RQ (runS σ1 net np no k) (runS σ net np no k) := fun net k => runS_cg (RQ_00 hq) hI.2.1.2.1.1.2.2 k
      have hrn1 : ∀ net k t o, rRest (runS σ1 net np no k) t o = rRest (runS σ net np no k) t o := fun net k t o => rRest_cg (hrn net k)
      have hrn2 : ∀ net k, gI (runS σ1 net np no k) 94 = gI (runS σ net np no k) 94 := fun net k => (hrn net k).2.1
      have hrn3 : ∀ net k, gI (runS σ1 net np no k) 95 = gI (runS σ net np no k) 95 := fun net k => (hrn net k).2.2.1
      have hrn4 : ∀ net k, anyO (runS σ1 net np no k) no = anyO (runS σ net np no k) no := fun net k => anyO_cg (hrn net k) no
      have hl' := hl
      try simp only [← rr91, ← rr94, ← rr95, ← rr96, ← rr100, ← rLive_cg hq, ← rRest_cg hq, ← rIn_cg hq] at hl'
      refine M_about_21 hd hI1 hp hl' (fun σ2 r2 => ?_)
      try simp only [rr91, rr94, rr95, rr96, rr97, rr98, rr99, rr100, rr103, rr104, rr105, rr89, rPay_cg hq, rIn_cg hq, rLive_cg hq, rRest_cg hq, rFloor_cg hq, rAt_cg hq, hown, htl, hrn1, hrn2, hrn3, hrn4]
      exact h σ2 r2
  · refine RO_p2 (by decide) hI (fun Rt h => X_about_3 hd hI hp h) (fun σ1 hI1 hq rr Rt h => ?_)
    have rr89 : gI σ1 89 = gI σ 89 := rr 89 (by omega)
    have rr91 : gI σ1 91 = gI σ 91 := rr 91 (by omega)
    have rr94 : gI σ1 94 = gI σ 94 := rr 94 (by omega)
    have rr95 : gI σ1 95 = gI σ 95 := rr 95 (by omega)
    have rr96 : gI σ1 96 = gI σ 96 := rr 96 (by omega)
    have rr97 : gI σ1 97 = gI σ 97 := rr 97 (by omega)
    have rr98 : gI σ1 98 = gI σ 98 := rr 98 (by omega)
    have rr99 : gI σ1 99 = gI σ 99 := rr 99 (by omega)
    have rr100 : gI σ1 100 = gI σ 100 := rr 100 (by omega)
    have rr103 : gI σ1 103 = gI σ 103 := rr 103 (by omega)
    have rr104 : gI σ1 104 = gI σ 104 := rr 104 (by omega)
    have rr105 : gI σ1 105 = gI σ 105 := rr 105 (by omega)
    have hown : ∀ o p net, rOwn σ1 o p net = rOwn σ o p net := fun o p net => congrFun (rOwn_cg (p := p) (net := net) hq) o
    have htl : ∀ t net wk, rTl σ1 t net wk = rTl σ t net wk := fun t net wk => rTl_cg rr91
    have hrn : ∀ net k, RQ (runS σ1 net np no k) (runS σ net np no k) := fun net k => runS_cg (RQ_00 hq) hI.2.1.2.1.1.2.2 k
    have hrn1 : ∀ net k t o, rRest (runS σ1 net np no k) t o = rRest (runS σ net np no k) t o := fun net k t o => rRest_cg (hrn net k)
    have hrn2 : ∀ net k, gI (runS σ1 net np no k) 94 = gI (runS σ net np no k) 94 := fun net k => (hrn net k).2.1
    have hrn3 : ∀ net k, gI (runS σ1 net np no k) 95 = gI (runS σ net np no k) 95 := fun net k => (hrn net k).2.2.1
    have hrn4 : ∀ net k, anyO (runS σ1 net np no k) no = anyO (runS σ net np no k) no := fun net k => anyO_cg (hrn net k) no
    refine M_about_3 hd hI1 hp (fun σ2 r2 => ?_)
    try simp only [rr91, rr94, rr95, rr96, rr97, rr98, rr99, rr100, rr103, rr104, rr105, rr89, rPay_cg hq, rIn_cg hq, rLive_cg hq, rRest_cg hq, rFloor_cg hq, rAt_cg hq, hown, htl, hrn1, hrn2, hrn3, hrn4]
    exact h σ2 r2
  · refine RO_p2 (by decide) hI (fun Rt h => X_about_4 hd hI hp h) (fun σ1 hI1 hq rr Rt h => ?_)
    have rr89 : gI σ1 89 = gI σ 89 := rr 89 (by omega)
    have rr91 : gI σ1 91 = gI σ 91 := rr 91 (by omega)
    have rr94 : gI σ1 94 = gI σ 94 := rr 94 (by omega)
    have rr95 : gI σ1 95 = gI σ 95 := rr 95 (by omega)
    have rr96 : gI σ1 96 = gI σ 96 := rr 96 (by omega)
    have rr97 : gI σ1 97 = gI σ 97 := rr 97 (by omega)
    have rr98 : gI σ1 98 = gI σ 98 := rr 98 (by omega)
    have rr99 : gI σ1 99 = gI σ 99 := rr 99 (by omega)
    have rr100 : gI σ1 100 = gI σ 100 := rr 100 (by omega)
    have rr103 : gI σ1 103 = gI σ 103 := rr 103 (by omega)
    have rr104 : gI σ1 104 = gI σ 104 := rr 104 (by omega)
    have rr105 : gI σ1 105 = gI σ 105 := rr 105 (by omega)
    have hown : ∀ o p net, rOwn σ1 o p net = rOwn σ o p net := fun o p net => congrFun (rOwn_cg (p := p) (net := net) hq) o
    have htl : ∀ t net wk, rTl σ1 t net wk = rTl σ t net wk := fun t net wk => rTl_cg rr91
    have hrn : ∀ net k, RQ (runS σ1 net np no k) (runS σ net np no k) := fun net k => runS_cg (RQ_00 hq) hI.2.1.2.1.1.2.2 k
    have hrn1 : ∀ net k t o, rRest (runS σ1 net np no k) t o = rRest (runS σ net np no k) t o := fun net k t o => rRest_cg (hrn net k)
    have hrn2 : ∀ net k, gI (runS σ1 net np no k) 94 = gI (runS σ net np no k) 94 := fun net k => (hrn net k).2.1
    have hrn3 : ∀ net k, gI (runS σ1 net np no k) 95 = gI (runS σ net np no k) 95 := fun net k => (hrn net k).2.2.1
    have hrn4 : ∀ net k, anyO (runS σ1 net np no k) no = anyO (runS σ net np no k) no := fun net k => anyO_cg (hrn net k) no
    refine M_about_4 hd hI1 hp (fun σ2 r2 => ?_)
    try simp only [rr91, rr94, rr95, rr96, rr97, rr98, rr99, rr100, rr103, rr104, rr105, rr89, rPay_cg hq, rIn_cg hq, rLive_cg hq, rRest_cg hq, rFloor_cg hq, rAt_cg hq, hown, htl, hrn1, hrn2, hrn3, hrn4]
    exact h σ2 r2
  · refine RO_p2 (by decide) hI (fun Rt h => X_about_5 hd hI hp h) (fun σ1 hI1 hq rr Rt h => ?_)
    have rr89 : gI σ1 89 = gI σ 89 := rr 89 (by omega)
    have rr91 : gI σ1 91 = gI σ 91 := rr 91 (by omega)
    have rr94 : gI σ1 94 = gI σ 94 := rr 94 (by omega)
    have rr95 : gI σ1 95 = gI σ 95 := rr 95 (by omega)
    have rr96 : gI σ1 96 = gI σ 96 := rr 96 (by omega)
    have rr97 : gI σ1 97 = gI σ 97 := rr 97 (by omega)
    have rr98 : gI σ1 98 = gI σ 98 := rr 98 (by omega)
    have rr99 : gI σ1 99 = gI σ 99 := rr 99 (by omega)
    have rr100 : gI σ1 100 = gI σ 100 := rr 100 (by omega)
    have rr103 : gI σ1 103 = gI σ 103 := rr 103 (by omega)
    have rr104 : gI σ1 104 = gI σ 104 := rr 104 (by omega)
    have rr105 : gI σ1 105 = gI σ 105 := rr 105 (by omega)
    have hown : ∀ o p net, rOwn σ1 o p net = rOwn σ o p net := fun o p net => congrFun (rOwn_cg (p := p) (net := net) hq) o
    have htl : ∀ t net wk, rTl σ1 t net wk = rTl σ t net wk := fun t net wk => rTl_cg rr91
    have hrn : ∀ net k, RQ (runS σ1 net np no k) (runS σ net np no k) := fun net k => runS_cg (RQ_00 hq) hI.2.1.2.1.1.2.2 k
    have hrn1 : ∀ net k t o, rRest (runS σ1 net np no k) t o = rRest (runS σ net np no k) t o := fun net k t o => rRest_cg (hrn net k)
    have hrn2 : ∀ net k, gI (runS σ1 net np no k) 94 = gI (runS σ net np no k) 94 := fun net k => (hrn net k).2.1
    have hrn3 : ∀ net k, gI (runS σ1 net np no k) 95 = gI (runS σ net np no k) 95 := fun net k => (hrn net k).2.2.1
    have hrn4 : ∀ net k, anyO (runS σ1 net np no k) no = anyO (runS σ net np no k) no := fun net k => anyO_cg (hrn net k) no
    refine M_about_5 hd hI1 hp (fun σ2 r2 => ?_)
    try simp only [rr91, rr94, rr95, rr96, rr97, rr98, rr99, rr100, rr103, rr104, rr105, rr89, rPay_cg hq, rIn_cg hq, rLive_cg hq, rRest_cg hq, rFloor_cg hq, rAt_cg hq, hown, htl, hrn1, hrn2, hrn3, hrn4]
    exact h σ2 r2
  · refine RO_p2 (by decide) hI (fun Rt h => X_about_6 hd hI hp h) (fun σ1 hI1 hq rr Rt h => ?_)
    have rr89 : gI σ1 89 = gI σ 89 := rr 89 (by omega)
    have rr91 : gI σ1 91 = gI σ 91 := rr 91 (by omega)
    have rr94 : gI σ1 94 = gI σ 94 := rr 94 (by omega)
    have rr95 : gI σ1 95 = gI σ 95 := rr 95 (by omega)
    have rr96 : gI σ1 96 = gI σ 96 := rr 96 (by omega)
    have rr97 : gI σ1 97 = gI σ 97 := rr 97 (by omega)
    have rr98 : gI σ1 98 = gI σ 98 := rr 98 (by omega)
    have rr99 : gI σ1 99 = gI σ 99 := rr 99 (by omega)
    have rr100 : gI σ1 100 = gI σ 100 := rr 100 (by omega)
    have rr103 : gI σ1 103 = gI σ 103 := rr 103 (by omega)
    have rr104 : gI σ1 104 = gI σ 104 := rr 104 (by omega)
    have rr105 : gI σ1 105 = gI σ 105 := rr 105 (by omega)
    have hown : ∀ o p net, rOwn σ1 o p net = rOwn σ o p net := fun o p net => congrFun (rOwn_cg (p := p) (net := net) hq) o
    have htl : ∀ t net wk, rTl σ1 t net wk = rTl σ t net wk := fun t net wk => rTl_cg rr91
    have hrn : ∀ net k, RQ (runS σ1 net np no k) (runS σ net np no k) := fun net k => runS_cg (RQ_00 hq) hI.2.1.2.1.1.2.2 k
    have hrn1 : ∀ net k t o, rRest (runS σ1 net np no k) t o = rRest (runS σ net np no k) t o := fun net k t o => rRest_cg (hrn net k)
    have hrn2 : ∀ net k, gI (runS σ1 net np no k) 94 = gI (runS σ net np no k) 94 := fun net k => (hrn net k).2.1
    have hrn3 : ∀ net k, gI (runS σ1 net np no k) 95 = gI (runS σ net np no k) 95 := fun net k => (hrn net k).2.2.1
    have hrn4 : ∀ net k, anyO (runS σ1 net np no k) no = anyO (runS σ net np no k) no := fun net k => anyO_cg (hrn net k) no
    refine M_about_6 hd hI1 hp (fun σ2 r2 => ?_)
    try simp only [rr91, rr94, rr95, rr96, rr97, rr98, rr99, rr100, rr103, rr104, rr105, rr89, rPay_cg hq, rIn_cg hq, rLive_cg hq, rRest_cg hq, rFloor_cg hq, rAt_cg hq, hown, htl, hrn1, hrn2, hrn3, hrn4]
    exact h σ2 r2
  · refine RO_p2 (by decide) hI (fun Rt h => X_about_7 hd hI hp h) (fun σ1 hI1 hq rr Rt h => ?_)
    have rr89 : gI σ1 89 = gI σ 89 := rr 89 (by omega)
    have rr91 : gI σ1 91 = gI σ 91 := rr 91 (by omega)
    have rr94 : gI σ1 94 = gI σ 94 := rr 94 (by omega)
    have rr95 : gI σ1 95 = gI σ 95 := rr 95 (by omega)
    have rr96 : gI σ1 96 = gI σ 96 := rr 96 (by omega)
    have rr97 : gI σ1 97 = gI σ 97 := rr 97 (by omega)
    have rr98 : gI σ1 98 = gI σ 98 := rr 98 (by omega)
    have rr99 : gI σ1 99 = gI σ 99 := rr 99 (by omega)
    have rr100 : gI σ1 100 = gI σ 100 := rr 100 (by omega)
    have rr103 : gI σ1 103 = gI σ 103 := rr 103 (by omega)
    have rr104 : gI σ1 104 = gI σ 104 := rr 104 (by omega)
    have rr105 : gI σ1 105 = gI σ 105 := rr 105 (by omega)
    have hown : ∀ o p net, rOwn σ1 o p net = rOwn σ o p net := fun o p net => congrFun (rOwn_cg (p := p) (net := net) hq) o
    have htl : ∀ t net wk, rTl σ1 t net wk = rTl σ t net wk := fun t net wk => rTl_cg rr91
    have hrn : ∀ net k, RQ (runS σ1 net np no k) (runS σ net np no k) := fun net k => runS_cg (RQ_00 hq) hI.2.1.2.1.1.2.2 k
    have hrn1 : ∀ net k t o, rRest (runS σ1 net np no k) t o = rRest (runS σ net np no k) t o := fun net k t o => rRest_cg (hrn net k)
    have hrn2 : ∀ net k, gI (runS σ1 net np no k) 94 = gI (runS σ net np no k) 94 := fun net k => (hrn net k).2.1
    have hrn3 : ∀ net k, gI (runS σ1 net np no k) 95 = gI (runS σ net np no k) 95 := fun net k => (hrn net k).2.2.1
    have hrn4 : ∀ net k, anyO (runS σ1 net np no k) no = anyO (runS σ net np no k) no := fun net k => anyO_cg (hrn net k) no
    refine M_about_7 hd hI1 hp (fun σ2 r2 => ?_)
    try simp only [rr91, rr94, rr95, rr96, rr97, rr98, rr99, rr100, rr103, rr104, rr105, rr89, rPay_cg hq, rIn_cg hq, rLive_cg hq, rRest_cg hq, rFloor_cg hq, rAt_cg hq, hown, htl, hrn1, hrn2, hrn3, hrn4]
    exact h σ2 r2
  · refine RO_p2 (by decide) hI (fun Rt h => X_about_8 hd hI hp h) (fun σ1 hI1 hq rr Rt h => ?_)
    have rr89 : gI σ1 89 = gI σ 89 := rr 89 (by omega)
    have rr91 : gI σ1 91 = gI σ 91 := rr 91 (by omega)
    have rr94 : gI σ1 94 = gI σ 94 := rr 94 (by omega)
    have rr95 : gI σ1 95 = gI σ 95 := rr 95 (by omega)
    have rr96 : gI σ1 96 = gI σ 96 := rr 96 (by omega)
    have rr97 : gI σ1 97 = gI σ 97 := rr 97 (by omega)
    have rr98 : gI σ1 98 = gI σ 98 := rr 98 (by omega)
    have rr99 : gI σ1 99 = gI σ 99 := rr 99 (by omega)
    have rr100 : gI σ1 100 = gI σ 100 := rr 100 (by omega)
    have rr103 : gI σ1 103 = gI σ 103 := rr 103 (by omega)
    have rr104 : gI σ1 104 = gI σ 104 := rr 104 (by omega)
    have rr105 : gI σ1 105 = gI σ 105 := rr 105 (by omega)
    have hown : ∀ o p net, rOwn σ1 o p net = rOwn σ o p net := fun o p net => congrFun (rOwn_cg (p := p) (net := net) hq) o
    have htl : ∀ t net wk, rTl σ1 t net wk = rTl σ t net wk := fun t net wk => rTl_cg rr91
    have hrn : ∀ net k, RQ (runS σ1 net np no k) (runS σ net np no k) := fun net k => runS_cg (RQ_00 hq) hI.2.1.2.1.1.2.2 k
    have hrn1 : ∀ net k t o, rRest (runS σ1 net np no k) t o = rRest (runS σ net np no k) t o := fun net k t o => rRest_cg (hrn net k)
    have hrn2 : ∀ net k, gI (runS σ1 net np no k) 94 = gI (runS σ net np no k) 94 := fun net k => (hrn net k).2.1
    have hrn3 : ∀ net k, gI (runS σ1 net np no k) 95 = gI (runS σ net np no k) 95 := fun net k => (hrn net k).2.2.1
    have hrn4 : ∀ net k, anyO (runS σ1 net np no k) no = anyO (runS σ net np no k) no := fun net k => anyO_cg (hrn net k) no
    refine M_about_8 hd hI1 hp (fun σ2 r2 => ?_)
    try simp only [rr91, rr94, rr95, rr96, rr97, rr98, rr99, rr100, rr103, rr104, rr105, rr89, rPay_cg hq, rIn_cg hq, rLive_cg hq, rRest_cg hq, rFloor_cg hq, rAt_cg hq, hown, htl, hrn1, hrn2, hrn3, hrn4]
    exact h σ2 r2
  · refine RO_p2 (by decide) hI (fun Rt h => X_about_9 hd hI hp h) (fun σ1 hI1 hq rr Rt h => ?_)
    have rr89 : gI σ1 89 = gI σ 89 := rr 89 (by omega)
    have rr91 : gI σ1 91 = gI σ 91 := rr 91 (by omega)
    have rr94 : gI σ1 94 = gI σ 94 := rr 94 (by omega)
    have rr95 : gI σ1 95 = gI σ 95 := rr 95 (by omega)
    have rr96 : gI σ1 96 = gI σ 96 := rr 96 (by omega)
    have rr97 : gI σ1 97 = gI σ 97 := rr 97 (by omega)
    have rr98 : gI σ1 98 = gI σ 98 := rr 98 (by omega)
    have rr99 : gI σ1 99 = gI σ 99 := rr 99 (by omega)
    have rr100 : gI σ1 100 = gI σ 100 := rr 100 (by omega)
    have rr103 : gI σ1 103 = gI σ 103 := rr 103 (by omega)
    have rr104 : gI σ1 104 = gI σ 104 := rr 104 (by omega)
    have rr105 : gI σ1 105 = gI σ 105 := rr 105 (by omega)
    have hown : ∀ o p net, rOwn σ1 o p net = rOwn σ o p net := fun o p net => congrFun (rOwn_cg (p := p) (net := net) hq) o
    have htl : ∀ t net wk, rTl σ1 t net wk = rTl σ t net wk := fun t net wk => rTl_cg rr91
    have hrn : ∀ net k, RQ (runS σ1 net np no k) (runS σ net np no k) := fun net k => runS_cg (RQ_00 hq) hI.2.1.2.1.1.2.2 k
    have hrn1 : ∀ net k t o, rRest (runS σ1 net np no k) t o = rRest (runS σ net np no k) t o := fun net k t o => rRest_cg (hrn net k)
    have hrn2 : ∀ net k, gI (runS σ1 net np no k) 94 = gI (runS σ net np no k) 94 := fun net k => (hrn net k).2.1
    have hrn3 : ∀ net k, gI (runS σ1 net np no k) 95 = gI (runS σ net np no k) 95 := fun net k => (hrn net k).2.2.1
    have hrn4 : ∀ net k, anyO (runS σ1 net np no k) no = anyO (runS σ net np no k) no := fun net k => anyO_cg (hrn net k) no
    refine M_about_9 hd hI1 hp (fun σ2 r2 => ?_)
    try simp only [rr91, rr94, rr95, rr96, rr97, rr98, rr99, rr100, rr103, rr104, rr105, rr89, rPay_cg hq, rIn_cg hq, rLive_cg hq, rRest_cg hq, rFloor_cg hq, rAt_cg hq, hown, htl, hrn1, hrn2, hrn3, hrn4]
    exact h σ2 r2
  · refine RO_p2 (by decide) hI (fun Rt h => X_about_10 hd hI hp h) (fun σ1 hI1 hq rr Rt h => ?_)
    have rr89 : gI σ1 89 = gI σ 89 := rr 89 (by omega)
    have rr91 : gI σ1 91 = gI σ 91 := rr 91 (by omega)
    have rr94 : gI σ1 94 = gI σ 94 := rr 94 (by omega)
    have rr95 : gI σ1 95 = gI σ 95 := rr 95 (by omega)
    have rr96 : gI σ1 96 = gI σ 96 := rr 96 (by omega)
    have rr97 : gI σ1 97 = gI σ 97 := rr 97 (by omega)
    have rr98 : gI σ1 98 = gI σ 98 := rr 98 (by omega)
    have rr99 : gI σ1 99 = gI σ 99 := rr 99 (by omega)
    have rr100 : gI σ1 100 = gI σ 100 := rr 100 (by omega)
    have rr103 : gI σ1 103 = gI σ 103 := rr 103 (by omega)
    have rr104 : gI σ1 104 = gI σ 104 := rr 104 (by omega)
    have rr105 : gI σ1 105 = gI σ 105 := rr 105 (by omega)
    have hown : ∀ o p net, rOwn σ1 o p net = rOwn σ o p net := fun o p net => congrFun (rOwn_cg (p := p) (net := net) hq) o
    have htl : ∀ t net wk, rTl σ1 t net wk = rTl σ t net wk := fun t net wk => rTl_cg rr91
    have hrn : ∀ net k, RQ (runS σ1 net np no k) (runS σ net np no k) := fun net k => runS_cg (RQ_00 hq) hI.2.1.2.1.1.2.2 k
    have hrn1 : ∀ net k t o, rRest (runS σ1 net np no k) t o = rRest (runS σ net np no k) t o := fun net k t o => rRest_cg (hrn net k)
    have hrn2 : ∀ net k, gI (runS σ1 net np no k) 94 = gI (runS σ net np no k) 94 := fun net k => (hrn net k).2.1
    have hrn3 : ∀ net k, gI (runS σ1 net np no k) 95 = gI (runS σ net np no k) 95 := fun net k => (hrn net k).2.2.1
    have hrn4 : ∀ net k, anyO (runS σ1 net np no k) no = anyO (runS σ net np no k) no := fun net k => anyO_cg (hrn net k) no
    refine M_about_10 hd hI1 hp (fun σ2 r2 => ?_)
    try simp only [rr91, rr94, rr95, rr96, rr97, rr98, rr99, rr100, rr103, rr104, rr105, rr89, rPay_cg hq, rIn_cg hq, rLive_cg hq, rRest_cg hq, rFloor_cg hq, rAt_cg hq, hown, htl, hrn1, hrn2, hrn3, hrn4]
    exact h σ2 r2
  · refine RO_p2 (by decide) hI (fun Rt h => X_about_11 hd hI hp h) (fun σ1 hI1 hq rr Rt h => ?_)
    have rr89 : gI σ1 89 = gI σ 89 := rr 89 (by omega)
    have rr91 : gI σ1 91 = gI σ 91 := rr 91 (by omega)
    have rr94 : gI σ1 94 = gI σ 94 := rr 94 (by omega)
    have rr95 : gI σ1 95 = gI σ 95 := rr 95 (by omega)
    have rr96 : gI σ1 96 = gI σ 96 := rr 96 (by omega)
    have rr97 : gI σ1 97 = gI σ 97 := rr 97 (by omega)
    have rr98 : gI σ1 98 = gI σ 98 := rr 98 (by omega)
    have rr99 : gI σ1 99 = gI σ 99 := rr 99 (by omega)
    have rr100 : gI σ1 100 = gI σ 100 := rr 100 (by omega)
    have rr103 : gI σ1 103 = gI σ 103 := rr 103 (by omega)
    have rr104 : gI σ1 104 = gI σ 104 := rr 104 (by omega)
    have rr105 : gI σ1 105 = gI σ 105 := rr 105 (by omega)
    have hown : ∀ o p net, rOwn σ1 o p net = rOwn σ o p net := fun o p net => congrFun (rOwn_cg (p := p) (net := net) hq) o
    have htl : ∀ t net wk, rTl σ1 t net wk = rTl σ t net wk := fun t net wk => rTl_cg rr91
    have hrn : ∀ net k, RQ (runS σ1 net np no k) (runS σ net np no k) := fun net k => runS_cg (RQ_00 hq) hI.2.1.2.1.1.2.2 k
    have hrn1 : ∀ net k t o, rRest (runS σ1 net np no k) t o = rRest (runS σ net np no k) t o := fun net k t o => rRest_cg (hrn net k)
    have hrn2 : ∀ net k, gI (runS σ1 net np no k) 94 = gI (runS σ net np no k) 94 := fun net k => (hrn net k).2.1
    have hrn3 : ∀ net k, gI (runS σ1 net np no k) 95 = gI (runS σ net np no k) 95 := fun net k => (hrn net k).2.2.1
    have hrn4 : ∀ net k, anyO (runS σ1 net np no k) no = anyO (runS σ net np no k) no := fun net k => anyO_cg (hrn net k) no
    refine M_about_11 hd hI1 hp (fun σ2 r2 => ?_)
    try simp only [rr91, rr94, rr95, rr96, rr97, rr98, rr99, rr100, rr103, rr104, rr105, rr89, rPay_cg hq, rIn_cg hq, rLive_cg hq, rRest_cg hq, rFloor_cg hq, rAt_cg hq, hown, htl, hrn1, hrn2, hrn3, hrn4]
    exact h σ2 r2
theorem PC_payer (hd : 14 ≤ d) (hI : InvB σ b b' nt np no K nx T (999999 * c)) (hc : c ≤ 512) : Pair d q_X9_payer q_X10_payer [.ref 0, .int i, .int what] [.ref 89, .int i, .int what] σ (fun σ2 => INV σ2 (c + 1)) := by
  have hb1 := hI.2.1.2.1.1
  have hB : (999999 * (c : Int)) ≤ 1000000000 := by omega
  by_cases hi : 0 ≤ i ∧ i < nI np
  rotate_left
  · refine RO_p2 (by decide) hI (fun Rt h => X_payer_n hd hI hi h) (fun σ1 hI1 hq rr Rt h => ?_)
    have rr89 : gI σ1 89 = gI σ 89 := rr 89 (by omega)
    have rr91 : gI σ1 91 = gI σ 91 := rr 91 (by omega)
    have rr94 : gI σ1 94 = gI σ 94 := rr 94 (by omega)
    have rr95 : gI σ1 95 = gI σ 95 := rr 95 (by omega)
    have rr96 : gI σ1 96 = gI σ 96 := rr 96 (by omega)
    have rr97 : gI σ1 97 = gI σ 97 := rr 97 (by omega)
    have rr98 : gI σ1 98 = gI σ 98 := rr 98 (by omega)
    have rr99 : gI σ1 99 = gI σ 99 := rr 99 (by omega)
    have rr100 : gI σ1 100 = gI σ 100 := rr 100 (by omega)
    have rr103 : gI σ1 103 = gI σ 103 := rr 103 (by omega)
    have rr104 : gI σ1 104 = gI σ 104 := rr 104 (by omega)
    have rr105 : gI σ1 105 = gI σ 105 := rr 105 (by omega)
    have hown : ∀ o p net, rOwn σ1 o p net = rOwn σ o p net := fun o p net => congrFun (rOwn_cg (p := p) (net := net) hq) o
    have htl : ∀ t net wk, rTl σ1 t net wk = rTl σ t net wk := fun t net wk => rTl_cg rr91
    have hrn : ∀ net k, RQ (runS σ1 net np no k) (runS σ net np no k) := fun net k => runS_cg (RQ_00 hq) hI.2.1.2.1.1.2.2 k
    have hrn1 : ∀ net k t o, rRest (runS σ1 net np no k) t o = rRest (runS σ net np no k) t o := fun net k t o => rRest_cg (hrn net k)
    have hrn2 : ∀ net k, gI (runS σ1 net np no k) 94 = gI (runS σ net np no k) 94 := fun net k => (hrn net k).2.1
    have hrn3 : ∀ net k, gI (runS σ1 net np no k) 95 = gI (runS σ net np no k) 95 := fun net k => (hrn net k).2.2.1
    have hrn4 : ∀ net k, anyO (runS σ1 net np no k) no = anyO (runS σ net np no k) no := fun net k => anyO_cg (hrn net k) no
    refine M_payer_n hd hI1 hi (fun σ2 r2 => ?_)
    try simp only [rr91, rr94, rr95, rr96, rr97, rr98, rr99, rr100, rr103, rr104, rr105, rr89, rPay_cg hq, rIn_cg hq, rLive_cg hq, rRest_cg hq, rFloor_cg hq, rAt_cg hq, hown, htl, hrn1, hrn2, hrn3, hrn4]
    exact h σ2 r2
  obtain ⟨p, hp, rfl⟩ := in_of (by omega) hi
  by_cases hw : 0 ≤ what ∧ what ≤ 4
  rotate_left
  · refine RO_p2 (by decide) hI (fun Rt h => X_payer_w hd hI hp hw h) (fun σ1 hI1 hq rr Rt h => ?_)
    have rr89 : gI σ1 89 = gI σ 89 := rr 89 (by omega)
    have rr91 : gI σ1 91 = gI σ 91 := rr 91 (by omega)
    have rr94 : gI σ1 94 = gI σ 94 := rr 94 (by omega)
    have rr95 : gI σ1 95 = gI σ 95 := rr 95 (by omega)
    have rr96 : gI σ1 96 = gI σ 96 := rr 96 (by omega)
    have rr97 : gI σ1 97 = gI σ 97 := rr 97 (by omega)
    have rr98 : gI σ1 98 = gI σ 98 := rr 98 (by omega)
    have rr99 : gI σ1 99 = gI σ 99 := rr 99 (by omega)
    have rr100 : gI σ1 100 = gI σ 100 := rr 100 (by omega)
    have rr103 : gI σ1 103 = gI σ 103 := rr 103 (by omega)
    have rr104 : gI σ1 104 = gI σ 104 := rr 104 (by omega)
    have rr105 : gI σ1 105 = gI σ 105 := rr 105 (by omega)
    have hown : ∀ o p net, rOwn σ1 o p net = rOwn σ o p net := fun o p net => congrFun (rOwn_cg (p := p) (net := net) hq) o
    have htl : ∀ t net wk, rTl σ1 t net wk = rTl σ t net wk := fun t net wk => rTl_cg rr91
    have hrn : ∀ net k, RQ (runS σ1 net np no k) (runS σ net np no k) := fun net k => runS_cg (RQ_00 hq) hI.2.1.2.1.1.2.2 k
    have hrn1 : ∀ net k t o, rRest (runS σ1 net np no k) t o = rRest (runS σ net np no k) t o := fun net k t o => rRest_cg (hrn net k)
    have hrn2 : ∀ net k, gI (runS σ1 net np no k) 94 = gI (runS σ net np no k) 94 := fun net k => (hrn net k).2.1
    have hrn3 : ∀ net k, gI (runS σ1 net np no k) 95 = gI (runS σ net np no k) 95 := fun net k => (hrn net k).2.2.1
    have hrn4 : ∀ net k, anyO (runS σ1 net np no k) no = anyO (runS σ net np no k) no := fun net k => anyO_cg (hrn net k) no
    refine M_payer_w hd hI1 hp hw (fun σ2 r2 => ?_)
    try simp only [rr91, rr94, rr95, rr96, rr97, rr98, rr99, rr100, rr103, rr104, rr105, rr89, rPay_cg hq, rIn_cg hq, rLive_cg hq, rRest_cg hq, rFloor_cg hq, rAt_cg hq, hown, htl, hrn1, hrn2, hrn3, hrn4]
    exact h σ2 r2
  obtain ⟨w, hw1, rfl⟩ := in_le (n := 4) (by omega) hw
  have hw_w : w = 0 ∨ w = 1 ∨ w = 2 ∨ w = 3 ∨ w = 4 := by omega
  rcases hw_w with rfl | rfl | rfl | rfl | rfl
  · refine RO_p2 (by decide) hI (fun Rt h => X_payer_0 hd hI hp h) (fun σ1 hI1 hq rr Rt h => ?_)
    have rr89 : gI σ1 89 = gI σ 89 := rr 89 (by omega)
    have rr91 : gI σ1 91 = gI σ 91 := rr 91 (by omega)
    have rr94 : gI σ1 94 = gI σ 94 := rr 94 (by omega)
    have rr95 : gI σ1 95 = gI σ 95 := rr 95 (by omega)
    have rr96 : gI σ1 96 = gI σ 96 := rr 96 (by omega)
    have rr97 : gI σ1 97 = gI σ 97 := rr 97 (by omega)
    have rr98 : gI σ1 98 = gI σ 98 := rr 98 (by omega)
    have rr99 : gI σ1 99 = gI σ 99 := rr 99 (by omega)
    have rr100 : gI σ1 100 = gI σ 100 := rr 100 (by omega)
    have rr103 : gI σ1 103 = gI σ 103 := rr 103 (by omega)
    have rr104 : gI σ1 104 = gI σ 104 := rr 104 (by omega)
    have rr105 : gI σ1 105 = gI σ 105 := rr 105 (by omega)
    have hown : ∀ o p net, rOwn σ1 o p net = rOwn σ o p net := fun o p net => congrFun (rOwn_cg (p := p) (net := net) hq) o
    have htl : ∀ t net wk, rTl σ1 t net wk = rTl σ t net wk := fun t net wk => rTl_cg rr91
    have hrn : ∀ net k, RQ (runS σ1 net np no k) (runS σ net np no k) := fun net k => runS_cg (RQ_00 hq) hI.2.1.2.1.1.2.2 k
    have hrn1 : ∀ net k t o, rRest (runS σ1 net np no k) t o = rRest (runS σ net np no k) t o := fun net k t o => rRest_cg (hrn net k)
    have hrn2 : ∀ net k, gI (runS σ1 net np no k) 94 = gI (runS σ net np no k) 94 := fun net k => (hrn net k).2.1
    have hrn3 : ∀ net k, gI (runS σ1 net np no k) 95 = gI (runS σ net np no k) 95 := fun net k => (hrn net k).2.2.1
    have hrn4 : ∀ net k, anyO (runS σ1 net np no k) no = anyO (runS σ net np no k) no := fun net k => anyO_cg (hrn net k) no
    refine M_payer_0 hd hI1 hp (fun σ2 r2 => ?_)
    try simp only [rr91, rr94, rr95, rr96, rr97, rr98, rr99, rr100, rr103, rr104, rr105, rr89, rPay_cg hq, rIn_cg hq, rLive_cg hq, rRest_cg hq, rFloor_cg hq, rAt_cg hq, hown, htl, hrn1, hrn2, hrn3, hrn4]
    exact h σ2 r2
  · refine RO_p2 (by decide) hI (fun Rt h => X_payer_1 hd hI hp h) (fun σ1 hI1 hq rr Rt h => ?_)
    have rr89 : gI σ1 89 = gI σ 89 := rr 89 (by omega)
    have rr91 : gI σ1 91 = gI σ 91 := rr 91 (by omega)
    have rr94 : gI σ1 94 = gI σ 94 := rr 94 (by omega)
    have rr95 : gI σ1 95 = gI σ 95 := rr 95 (by omega)
    have rr96 : gI σ1 96 = gI σ 96 := rr 96 (by omega)
    have rr97 : gI σ1 97 = gI σ 97 := rr 97 (by omega)
    have rr98 : gI σ1 98 = gI σ 98 := rr 98 (by omega)
    have rr99 : gI σ1 99 = gI σ 99 := rr 99 (by omega)
    have rr100 : gI σ1 100 = gI σ 100 := rr 100 (by omega)
    have rr103 : gI σ1 103 = gI σ 103 := rr 103 (by omega)
    have rr104 : gI σ1 104 = gI σ 104 := rr 104 (by omega)
    have rr105 : gI σ1 105 = gI σ 105 := rr 105 (by omega)
    have hown : ∀ o p net, rOwn σ1 o p net = rOwn σ o p net := fun o p net => congrFun (rOwn_cg (p := p) (net := net) hq) o
    have htl : ∀ t net wk, rTl σ1 t net wk = rTl σ t net wk := fun t net wk => rTl_cg rr91
    have hrn : ∀ net k, RQ (runS σ1 net np no k) (runS σ net np no k) := fun net k => runS_cg (RQ_00 hq) hI.2.1.2.1.1.2.2 k
    have hrn1 : ∀ net k t o, rRest (runS σ1 net np no k) t o = rRest (runS σ net np no k) t o := fun net k t o => rRest_cg (hrn net k)
    have hrn2 : ∀ net k, gI (runS σ1 net np no k) 94 = gI (runS σ net np no k) 94 := fun net k => (hrn net k).2.1
    have hrn3 : ∀ net k, gI (runS σ1 net np no k) 95 = gI (runS σ net np no k) 95 := fun net k => (hrn net k).2.2.1
    have hrn4 : ∀ net k, anyO (runS σ1 net np no k) no = anyO (runS σ net np no k) no := fun net k => anyO_cg (hrn net k) no
    refine M_payer_1 hd hI1 hp (fun σ2 r2 => ?_)
    try simp only [rr91, rr94, rr95, rr96, rr97, rr98, rr99, rr100, rr103, rr104, rr105, rr89, rPay_cg hq, rIn_cg hq, rLive_cg hq, rRest_cg hq, rFloor_cg hq, rAt_cg hq, hown, htl, hrn1, hrn2, hrn3, hrn4]
    exact h σ2 r2
  · refine RO_p2 (by decide) hI (fun Rt h => X_payer_2 hd hI hp h) (fun σ1 hI1 hq rr Rt h => ?_)
    have rr89 : gI σ1 89 = gI σ 89 := rr 89 (by omega)
    have rr91 : gI σ1 91 = gI σ 91 := rr 91 (by omega)
    have rr94 : gI σ1 94 = gI σ 94 := rr 94 (by omega)
    have rr95 : gI σ1 95 = gI σ 95 := rr 95 (by omega)
    have rr96 : gI σ1 96 = gI σ 96 := rr 96 (by omega)
    have rr97 : gI σ1 97 = gI σ 97 := rr 97 (by omega)
    have rr98 : gI σ1 98 = gI σ 98 := rr 98 (by omega)
    have rr99 : gI σ1 99 = gI σ 99 := rr 99 (by omega)
    have rr100 : gI σ1 100 = gI σ 100 := rr 100 (by omega)
    have rr103 : gI σ1 103 = gI σ 103 := rr 103 (by omega)
    have rr104 : gI σ1 104 = gI σ 104 := rr 104 (by omega)
    have rr105 : gI σ1 105 = gI σ 105 := rr 105 (by omega)
    have hown : ∀ o p net, rOwn σ1 o p net = rOwn σ o p net := fun o p net => congrFun (rOwn_cg (p := p) (net := net) hq) o
    have htl : ∀ t net wk, rTl σ1 t net wk = rTl σ t net wk := fun t net wk => rTl_cg rr91
    have hrn : ∀ net k, RQ (runS σ1 net np no k) (runS σ net np no k) := fun net k => runS_cg (RQ_00 hq) hI.2.1.2.1.1.2.2 k
    have hrn1 : ∀ net k t o, rRest (runS σ1 net np no k) t o = rRest (runS σ net np no k) t o := fun net k t o => rRest_cg (hrn net k)
    have hrn2 : ∀ net k, gI (runS σ1 net np no k) 94 = gI (runS σ net np no k) 94 := fun net k => (hrn net k).2.1
    have hrn3 : ∀ net k, gI (runS σ1 net np no k) 95 = gI (runS σ net np no k) 95 := fun net k => (hrn net k).2.2.1
    have hrn4 : ∀ net k, anyO (runS σ1 net np no k) no = anyO (runS σ net np no k) no := fun net k => anyO_cg (hrn net k) no
    refine M_payer_2 hd hI1 hp (fun σ2 r2 => ?_)
    try simp only [rr91, rr94, rr95, rr96, rr97, rr98, rr99, rr100, rr103, rr104, rr105, rr89, rPay_cg hq, rIn_cg hq, rLive_cg hq, rRest_cg hq, rFloor_cg hq, rAt_cg hq, hown, htl, hrn1, hrn2, hrn3, hrn4]
    exact h σ2 r2
  · refine RO_p2 (by decide) hI (fun Rt h => X_payer_3 hd hI hp h) (fun σ1 hI1 hq rr Rt h => ?_)
    have rr89 : gI σ1 89 = gI σ 89 := rr 89 (by omega)
    have rr91 : gI σ1 91 = gI σ 91 := rr 91 (by omega)
    have rr94 : gI σ1 94 = gI σ 94 := rr 94 (by omega)
    have rr95 : gI σ1 95 = gI σ 95 := rr 95 (by omega)
    have rr96 : gI σ1 96 = gI σ 96 := rr 96 (by omega)
    have rr97 : gI σ1 97 = gI σ 97 := rr 97 (by omega)
    have rr98 : gI σ1 98 = gI σ 98 := rr 98 (by omega)
    have rr99 : gI σ1 99 = gI σ 99 := rr 99 (by omega)
    have rr100 : gI σ1 100 = gI σ 100 := rr 100 (by omega)
    have rr103 : gI σ1 103 = gI σ 103 := rr 103 (by omega)
    have rr104 : gI σ1 104 = gI σ 104 := rr 104 (by omega)
    have rr105 : gI σ1 105 = gI σ 105 := rr 105 (by omega)
    have hown : ∀ o p net, rOwn σ1 o p net = rOwn σ o p net := fun o p net => congrFun (rOwn_cg (p := p) (net := net) hq) o
    have htl : ∀ t net wk, rTl σ1 t net wk = rTl σ t net wk := fun t net wk => rTl_cg rr91
    have hrn : ∀ net k, RQ (runS σ1 net np no k) (runS σ net np no k) := fun net k => runS_cg (RQ_00 hq) hI.2.1.2.1.1.2.2 k
    have hrn1 : ∀ net k t o, rRest (runS σ1 net np no k) t o = rRest (runS σ net np no k) t o := fun net k t o => rRest_cg (hrn net k)
    have hrn2 : ∀ net k, gI (runS σ1 net np no k) 94 = gI (runS σ net np no k) 94 := fun net k => (hrn net k).2.1
    have hrn3 : ∀ net k, gI (runS σ1 net np no k) 95 = gI (runS σ net np no k) 95 := fun net k => (hrn net k).2.2.1
    have hrn4 : ∀ net k, anyO (runS σ1 net np no k) no = anyO (runS σ net np no k) no := fun net k => anyO_cg (hrn net k) no
    refine M_payer_3 hd hI1 hp (fun σ2 r2 => ?_)
    try simp only [rr91, rr94, rr95, rr96, rr97, rr98, rr99, rr100, rr103, rr104, rr105, rr89, rPay_cg hq, rIn_cg hq, rLive_cg hq, rRest_cg hq, rFloor_cg hq, rAt_cg hq, hown, htl, hrn1, hrn2, hrn3, hrn4]
    exact h σ2 r2
  · refine RO_p2 (by decide) hI (fun Rt h => X_payer_4 hd hI hp h) (fun σ1 hI1 hq rr Rt h => ?_)
    have rr89 : gI σ1 89 = gI σ 89 := rr 89 (by omega)
    have rr91 : gI σ1 91 = gI σ 91 := rr 91 (by omega)
    have rr94 : gI σ1 94 = gI σ 94 := rr 94 (by omega)
    have rr95 : gI σ1 95 = gI σ 95 := rr 95 (by omega)
    have rr96 : gI σ1 96 = gI σ 96 := rr 96 (by omega)
    have rr97 : gI σ1 97 = gI σ 97 := rr 97 (by omega)
    have rr98 : gI σ1 98 = gI σ 98 := rr 98 (by omega)
    have rr99 : gI σ1 99 = gI σ 99 := rr 99 (by omega)
    have rr100 : gI σ1 100 = gI σ 100 := rr 100 (by omega)
    have rr103 : gI σ1 103 = gI σ 103 := rr 103 (by omega)
    have rr104 : gI σ1 104 = gI σ 104 := rr 104 (by omega)
    have rr105 : gI σ1 105 = gI σ 105 := rr 105 (by omega)
    have hown : ∀ o p net, rOwn σ1 o p net = rOwn σ o p net := fun o p net => congrFun (rOwn_cg (p := p) (net := net) hq) o
    have htl : ∀ t net wk, rTl σ1 t net wk = rTl σ t net wk := fun t net wk => rTl_cg rr91
    have hrn : ∀ net k, RQ (runS σ1 net np no k) (runS σ net np no k) := fun net k => runS_cg (RQ_00 hq) hI.2.1.2.1.1.2.2 k
    have hrn1 : ∀ net k t o, rRest (runS σ1 net np no k) t o = rRest (runS σ net np no k) t o := fun net k t o => rRest_cg (hrn net k)
    have hrn2 : ∀ net k, gI (runS σ1 net np no k) 94 = gI (runS σ net np no k) 94 := fun net k => (hrn net k).2.1
    have hrn3 : ∀ net k, gI (runS σ1 net np no k) 95 = gI (runS σ net np no k) 95 := fun net k => (hrn net k).2.2.1
    have hrn4 : ∀ net k, anyO (runS σ1 net np no k) no = anyO (runS σ net np no k) no := fun net k => anyO_cg (hrn net k) no
    refine M_payer_4 hd hI1 hp (fun σ2 r2 => ?_)
    try simp only [rr91, rr94, rr95, rr96, rr97, rr98, rr99, rr100, rr103, rr104, rr105, rr89, rPay_cg hq, rIn_cg hq, rLive_cg hq, rRest_cg hq, rFloor_cg hq, rAt_cg hq, hown, htl, hrn1, hrn2, hrn3, hrn4]
    exact h σ2 r2
theorem PC_floor (hd : 14 ≤ d) (hI : InvB σ b b' nt np no K nx T (999999 * c)) (hc : c ≤ 512) : Pair d q_X9_floor q_X10_floor [.ref 0, .int i, .int net] [.ref 89, .int i, .int net] σ (fun σ2 => INV σ2 (c + 1)) := by
  have hb1 := hI.2.1.2.1.1
  have hB : (999999 * (c : Int)) ≤ 1000000000 := by omega
  by_cases hi : 0 ≤ i ∧ i < nI np
  rotate_left
  · refine RO_p2 (by decide) hI (fun Rt h => X_floor_n hd hI hi h) (fun σ1 hI1 hq rr Rt h => ?_)
    have rr89 : gI σ1 89 = gI σ 89 := rr 89 (by omega)
    have rr91 : gI σ1 91 = gI σ 91 := rr 91 (by omega)
    have rr94 : gI σ1 94 = gI σ 94 := rr 94 (by omega)
    have rr95 : gI σ1 95 = gI σ 95 := rr 95 (by omega)
    have rr96 : gI σ1 96 = gI σ 96 := rr 96 (by omega)
    have rr97 : gI σ1 97 = gI σ 97 := rr 97 (by omega)
    have rr98 : gI σ1 98 = gI σ 98 := rr 98 (by omega)
    have rr99 : gI σ1 99 = gI σ 99 := rr 99 (by omega)
    have rr100 : gI σ1 100 = gI σ 100 := rr 100 (by omega)
    have rr103 : gI σ1 103 = gI σ 103 := rr 103 (by omega)
    have rr104 : gI σ1 104 = gI σ 104 := rr 104 (by omega)
    have rr105 : gI σ1 105 = gI σ 105 := rr 105 (by omega)
    have hown : ∀ o p net, rOwn σ1 o p net = rOwn σ o p net := fun o p net => congrFun (rOwn_cg (p := p) (net := net) hq) o
    have htl : ∀ t net wk, rTl σ1 t net wk = rTl σ t net wk := fun t net wk => rTl_cg rr91
    have hrn : ∀ net k, RQ (runS σ1 net np no k) (runS σ net np no k) := fun net k => runS_cg (RQ_00 hq) hI.2.1.2.1.1.2.2 k
    have hrn1 : ∀ net k t o, rRest (runS σ1 net np no k) t o = rRest (runS σ net np no k) t o := fun net k t o => rRest_cg (hrn net k)
    have hrn2 : ∀ net k, gI (runS σ1 net np no k) 94 = gI (runS σ net np no k) 94 := fun net k => (hrn net k).2.1
    have hrn3 : ∀ net k, gI (runS σ1 net np no k) 95 = gI (runS σ net np no k) 95 := fun net k => (hrn net k).2.2.1
    have hrn4 : ∀ net k, anyO (runS σ1 net np no k) no = anyO (runS σ net np no k) no := fun net k => anyO_cg (hrn net k) no
    refine M_floor_n hd hI1 hi (fun σ2 r2 => ?_)
    try simp only [rr91, rr94, rr95, rr96, rr97, rr98, rr99, rr100, rr103, rr104, rr105, rr89, rPay_cg hq, rIn_cg hq, rLive_cg hq, rRest_cg hq, rFloor_cg hq, rAt_cg hq, hown, htl, hrn1, hrn2, hrn3, hrn4]
    exact h σ2 r2
  obtain ⟨p, hp, rfl⟩ := in_of (by omega) hi
  by_cases hnet : 0 ≤ net ∧ net ≤ 9999
  rotate_left
  · refine RO_p2 (by decide) hI (fun Rt h => X_floor_b hd hI hp hnet h) (fun σ1 hI1 hq rr Rt h => ?_)
    have rr89 : gI σ1 89 = gI σ 89 := rr 89 (by omega)
    have rr91 : gI σ1 91 = gI σ 91 := rr 91 (by omega)
    have rr94 : gI σ1 94 = gI σ 94 := rr 94 (by omega)
    have rr95 : gI σ1 95 = gI σ 95 := rr 95 (by omega)
    have rr96 : gI σ1 96 = gI σ 96 := rr 96 (by omega)
    have rr97 : gI σ1 97 = gI σ 97 := rr 97 (by omega)
    have rr98 : gI σ1 98 = gI σ 98 := rr 98 (by omega)
    have rr99 : gI σ1 99 = gI σ 99 := rr 99 (by omega)
    have rr100 : gI σ1 100 = gI σ 100 := rr 100 (by omega)
    have rr103 : gI σ1 103 = gI σ 103 := rr 103 (by omega)
    have rr104 : gI σ1 104 = gI σ 104 := rr 104 (by omega)
    have rr105 : gI σ1 105 = gI σ 105 := rr 105 (by omega)
    have hown : ∀ o p net, rOwn σ1 o p net = rOwn σ o p net := fun o p net => congrFun (rOwn_cg (p := p) (net := net) hq) o
    have htl : ∀ t net wk, rTl σ1 t net wk = rTl σ t net wk := fun t net wk => rTl_cg rr91
    have hrn : ∀ net k, RQ (runS σ1 net np no k) (runS σ net np no k) := fun net k => runS_cg (RQ_00 hq) hI.2.1.2.1.1.2.2 k
    have hrn1 : ∀ net k t o, rRest (runS σ1 net np no k) t o = rRest (runS σ net np no k) t o := fun net k t o => rRest_cg (hrn net k)
    have hrn2 : ∀ net k, gI (runS σ1 net np no k) 94 = gI (runS σ net np no k) 94 := fun net k => (hrn net k).2.1
    have hrn3 : ∀ net k, gI (runS σ1 net np no k) 95 = gI (runS σ net np no k) 95 := fun net k => (hrn net k).2.2.1
    have hrn4 : ∀ net k, anyO (runS σ1 net np no k) no = anyO (runS σ net np no k) no := fun net k => anyO_cg (hrn net k) no
    refine M_floor_b hd hI1 hp hnet (fun σ2 r2 => ?_)
    try simp only [rr91, rr94, rr95, rr96, rr97, rr98, rr99, rr100, rr103, rr104, rr105, rr89, rPay_cg hq, rIn_cg hq, rLive_cg hq, rRest_cg hq, rFloor_cg hq, rAt_cg hq, hown, htl, hrn1, hrn2, hrn3, hrn4]
    exact h σ2 r2
  · refine RO_p2 (by decide) hI (fun Rt h => X_floor_t hd hI hp hnet h) (fun σ1 hI1 hq rr Rt h => ?_)
    have rr89 : gI σ1 89 = gI σ 89 := rr 89 (by omega)
    have rr91 : gI σ1 91 = gI σ 91 := rr 91 (by omega)
    have rr94 : gI σ1 94 = gI σ 94 := rr 94 (by omega)
    have rr95 : gI σ1 95 = gI σ 95 := rr 95 (by omega)
    have rr96 : gI σ1 96 = gI σ 96 := rr 96 (by omega)
    have rr97 : gI σ1 97 = gI σ 97 := rr 97 (by omega)
    have rr98 : gI σ1 98 = gI σ 98 := rr 98 (by omega)
    have rr99 : gI σ1 99 = gI σ 99 := rr 99 (by omega)
    have rr100 : gI σ1 100 = gI σ 100 := rr 100 (by omega)
    have rr103 : gI σ1 103 = gI σ 103 := rr 103 (by omega)
    have rr104 : gI σ1 104 = gI σ 104 := rr 104 (by omega)
    have rr105 : gI σ1 105 = gI σ 105 := rr 105 (by omega)
    have hown : ∀ o p net, rOwn σ1 o p net = rOwn σ o p net := fun o p net => congrFun (rOwn_cg (p := p) (net := net) hq) o
    have htl : ∀ t net wk, rTl σ1 t net wk = rTl σ t net wk := fun t net wk => rTl_cg rr91
    have hrn : ∀ net k, RQ (runS σ1 net np no k) (runS σ net np no k) := fun net k => runS_cg (RQ_00 hq) hI.2.1.2.1.1.2.2 k
    have hrn1 : ∀ net k t o, rRest (runS σ1 net np no k) t o = rRest (runS σ net np no k) t o := fun net k t o => rRest_cg (hrn net k)
    have hrn2 : ∀ net k, gI (runS σ1 net np no k) 94 = gI (runS σ net np no k) 94 := fun net k => (hrn net k).2.1
    have hrn3 : ∀ net k, gI (runS σ1 net np no k) 95 = gI (runS σ net np no k) 95 := fun net k => (hrn net k).2.2.1
    have hrn4 : ∀ net k, anyO (runS σ1 net np no k) no = anyO (runS σ net np no k) no := fun net k => anyO_cg (hrn net k) no
    refine M_floor_t hd hI1 hp hnet (fun σ2 r2 => ?_)
    try simp only [rr91, rr94, rr95, rr96, rr97, rr98, rr99, rr100, rr103, rr104, rr105, rr89, rPay_cg hq, rIn_cg hq, rLive_cg hq, rRest_cg hq, rFloor_cg hq, rAt_cg hq, hown, htl, hrn1, hrn2, hrn3, hrn4]
    exact h σ2 r2
theorem PC_left (hd : 14 ≤ d) (hI : InvB σ b b' nt np no K nx T (999999 * c)) (hc : c ≤ 512) : Pair d q_X9_left q_X10_left [.ref 0, .int i, .int net] [.ref 89, .int i, .int net] σ (fun σ2 => INV σ2 (c + 1)) := by
  have hb1 := hI.2.1.2.1.1
  have hB : (999999 * (c : Int)) ≤ 1000000000 := by omega
  by_cases hi : 0 ≤ i ∧ i < nI np
  rotate_left
  · refine RO_p2 (by decide) hI (fun Rt h => X_left_n hd hI hi h) (fun σ1 hI1 hq rr Rt h => ?_)
    have rr89 : gI σ1 89 = gI σ 89 := rr 89 (by omega)
    have rr91 : gI σ1 91 = gI σ 91 := rr 91 (by omega)
    have rr94 : gI σ1 94 = gI σ 94 := rr 94 (by omega)
    have rr95 : gI σ1 95 = gI σ 95 := rr 95 (by omega)
    have rr96 : gI σ1 96 = gI σ 96 := rr 96 (by omega)
    have rr97 : gI σ1 97 = gI σ 97 := rr 97 (by omega)
    have rr98 : gI σ1 98 = gI σ 98 := rr 98 (by omega)
    have rr99 : gI σ1 99 = gI σ 99 := rr 99 (by omega)
    have rr100 : gI σ1 100 = gI σ 100 := rr 100 (by omega)
    have rr103 : gI σ1 103 = gI σ 103 := rr 103 (by omega)
    have rr104 : gI σ1 104 = gI σ 104 := rr 104 (by omega)
    have rr105 : gI σ1 105 = gI σ 105 := rr 105 (by omega)
    have hown : ∀ o p net, rOwn σ1 o p net = rOwn σ o p net := fun o p net => congrFun (rOwn_cg (p := p) (net := net) hq) o
    have htl : ∀ t net wk, rTl σ1 t net wk = rTl σ t net wk := fun t net wk => rTl_cg rr91
    have hrn : ∀ net k, RQ (runS σ1 net np no k) (runS σ net np no k) := fun net k => runS_cg (RQ_00 hq) hI.2.1.2.1.1.2.2 k
    have hrn1 : ∀ net k t o, rRest (runS σ1 net np no k) t o = rRest (runS σ net np no k) t o := fun net k t o => rRest_cg (hrn net k)
    have hrn2 : ∀ net k, gI (runS σ1 net np no k) 94 = gI (runS σ net np no k) 94 := fun net k => (hrn net k).2.1
    have hrn3 : ∀ net k, gI (runS σ1 net np no k) 95 = gI (runS σ net np no k) 95 := fun net k => (hrn net k).2.2.1
    have hrn4 : ∀ net k, anyO (runS σ1 net np no k) no = anyO (runS σ net np no k) no := fun net k => anyO_cg (hrn net k) no
    refine M_left_n hd hI1 hi (fun σ2 r2 => ?_)
    try simp only [rr91, rr94, rr95, rr96, rr97, rr98, rr99, rr100, rr103, rr104, rr105, rr89, rPay_cg hq, rIn_cg hq, rLive_cg hq, rRest_cg hq, rFloor_cg hq, rAt_cg hq, hown, htl, hrn1, hrn2, hrn3, hrn4]
    exact h σ2 r2
  obtain ⟨p, hp, rfl⟩ := in_of (by omega) hi
  by_cases hnet : 0 ≤ net ∧ net ≤ 9999
  rotate_left
  · refine RO_p2 (by decide) hI (fun Rt h => X_left_b hd hI hp hnet h) (fun σ1 hI1 hq rr Rt h => ?_)
    have rr89 : gI σ1 89 = gI σ 89 := rr 89 (by omega)
    have rr91 : gI σ1 91 = gI σ 91 := rr 91 (by omega)
    have rr94 : gI σ1 94 = gI σ 94 := rr 94 (by omega)
    have rr95 : gI σ1 95 = gI σ 95 := rr 95 (by omega)
    have rr96 : gI σ1 96 = gI σ 96 := rr 96 (by omega)
    have rr97 : gI σ1 97 = gI σ 97 := rr 97 (by omega)
    have rr98 : gI σ1 98 = gI σ 98 := rr 98 (by omega)
    have rr99 : gI σ1 99 = gI σ 99 := rr 99 (by omega)
    have rr100 : gI σ1 100 = gI σ 100 := rr 100 (by omega)
    have rr103 : gI σ1 103 = gI σ 103 := rr 103 (by omega)
    have rr104 : gI σ1 104 = gI σ 104 := rr 104 (by omega)
    have rr105 : gI σ1 105 = gI σ 105 := rr 105 (by omega)
    have hown : ∀ o p net, rOwn σ1 o p net = rOwn σ o p net := fun o p net => congrFun (rOwn_cg (p := p) (net := net) hq) o
    have htl : ∀ t net wk, rTl σ1 t net wk = rTl σ t net wk := fun t net wk => rTl_cg rr91
    have hrn : ∀ net k, RQ (runS σ1 net np no k) (runS σ net np no k) := fun net k => runS_cg (RQ_00 hq) hI.2.1.2.1.1.2.2 k
    have hrn1 : ∀ net k t o, rRest (runS σ1 net np no k) t o = rRest (runS σ net np no k) t o := fun net k t o => rRest_cg (hrn net k)
    have hrn2 : ∀ net k, gI (runS σ1 net np no k) 94 = gI (runS σ net np no k) 94 := fun net k => (hrn net k).2.1
    have hrn3 : ∀ net k, gI (runS σ1 net np no k) 95 = gI (runS σ net np no k) 95 := fun net k => (hrn net k).2.2.1
    have hrn4 : ∀ net k, anyO (runS σ1 net np no k) no = anyO (runS σ net np no k) no := fun net k => anyO_cg (hrn net k) no
    refine M_left_b hd hI1 hp hnet (fun σ2 r2 => ?_)
    try simp only [rr91, rr94, rr95, rr96, rr97, rr98, rr99, rr100, rr103, rr104, rr105, rr89, rPay_cg hq, rIn_cg hq, rLive_cg hq, rRest_cg hq, rFloor_cg hq, rAt_cg hq, hown, htl, hrn1, hrn2, hrn3, hrn4]
    exact h σ2 r2
  · refine RO_p2 (by decide) hI (fun Rt h => X_left_t hd hI hp hnet h) (fun σ1 hI1 hq rr Rt h => ?_)
    have rr89 : gI σ1 89 = gI σ 89 := rr 89 (by omega)
    have rr91 : gI σ1 91 = gI σ 91 := rr 91 (by omega)
    have rr94 : gI σ1 94 = gI σ 94 := rr 94 (by omega)
    have rr95 : gI σ1 95 = gI σ 95 := rr 95 (by omega)
    have rr96 : gI σ1 96 = gI σ 96 := rr 96 (by omega)
    have rr97 : gI σ1 97 = gI σ 97 := rr 97 (by omega)
    have rr98 : gI σ1 98 = gI σ 98 := rr 98 (by omega)
    have rr99 : gI σ1 99 = gI σ 99 := rr 99 (by omega)
    have rr100 : gI σ1 100 = gI σ 100 := rr 100 (by omega)
    have rr103 : gI σ1 103 = gI σ 103 := rr 103 (by omega)
    have rr104 : gI σ1 104 = gI σ 104 := rr 104 (by omega)
    have rr105 : gI σ1 105 = gI σ 105 := rr 105 (by omega)
    have hown : ∀ o p net, rOwn σ1 o p net = rOwn σ o p net := fun o p net => congrFun (rOwn_cg (p := p) (net := net) hq) o
    have htl : ∀ t net wk, rTl σ1 t net wk = rTl σ t net wk := fun t net wk => rTl_cg rr91
    have hrn : ∀ net k, RQ (runS σ1 net np no k) (runS σ net np no k) := fun net k => runS_cg (RQ_00 hq) hI.2.1.2.1.1.2.2 k
    have hrn1 : ∀ net k t o, rRest (runS σ1 net np no k) t o = rRest (runS σ net np no k) t o := fun net k t o => rRest_cg (hrn net k)
    have hrn2 : ∀ net k, gI (runS σ1 net np no k) 94 = gI (runS σ net np no k) 94 := fun net k => (hrn net k).2.1
    have hrn3 : ∀ net k, gI (runS σ1 net np no k) 95 = gI (runS σ net np no k) 95 := fun net k => (hrn net k).2.2.1
    have hrn4 : ∀ net k, anyO (runS σ1 net np no k) no = anyO (runS σ net np no k) no := fun net k => anyO_cg (hrn net k) no
    refine M_left_t hd hI1 hp hnet (fun σ2 r2 => ?_)
    try simp only [rr91, rr94, rr95, rr96, rr97, rr98, rr99, rr100, rr103, rr104, rr105, rr89, rPay_cg hq, rIn_cg hq, rLive_cg hq, rRest_cg hq, rFloor_cg hq, rAt_cg hq, hown, htl, hrn1, hrn2, hrn3, hrn4]
    exact h σ2 r2
theorem PC_ownFloor (hd : 14 ≤ d) (hI : InvB σ b b' nt np no K nx T (999999 * c)) (hc : c ≤ 512) : Pair d q_X9_ownFloor q_X10_ownFloor [.ref 0, .int i, .int j, .int net] [.ref 89, .int i, .int j, .int net] σ (fun σ2 => INV σ2 (c + 1)) := by
  have hb1 := hI.2.1.2.1.1
  have hB : (999999 * (c : Int)) ≤ 1000000000 := by omega
  by_cases hi : 0 ≤ i ∧ i < nI no
  rotate_left
  · refine RO_p2 (by decide) hI (fun Rt h => X_ownFloor_n hd hI hi h) (fun σ1 hI1 hq rr Rt h => ?_)
    have rr89 : gI σ1 89 = gI σ 89 := rr 89 (by omega)
    have rr91 : gI σ1 91 = gI σ 91 := rr 91 (by omega)
    have rr94 : gI σ1 94 = gI σ 94 := rr 94 (by omega)
    have rr95 : gI σ1 95 = gI σ 95 := rr 95 (by omega)
    have rr96 : gI σ1 96 = gI σ 96 := rr 96 (by omega)
    have rr97 : gI σ1 97 = gI σ 97 := rr 97 (by omega)
    have rr98 : gI σ1 98 = gI σ 98 := rr 98 (by omega)
    have rr99 : gI σ1 99 = gI σ 99 := rr 99 (by omega)
    have rr100 : gI σ1 100 = gI σ 100 := rr 100 (by omega)
    have rr103 : gI σ1 103 = gI σ 103 := rr 103 (by omega)
    have rr104 : gI σ1 104 = gI σ 104 := rr 104 (by omega)
    have rr105 : gI σ1 105 = gI σ 105 := rr 105 (by omega)
    have hown : ∀ o p net, rOwn σ1 o p net = rOwn σ o p net := fun o p net => congrFun (rOwn_cg (p := p) (net := net) hq) o
    have htl : ∀ t net wk, rTl σ1 t net wk = rTl σ t net wk := fun t net wk => rTl_cg rr91
    have hrn : ∀ net k, RQ (runS σ1 net np no k) (runS σ net np no k) := fun net k => runS_cg (RQ_00 hq) hI.2.1.2.1.1.2.2 k
    have hrn1 : ∀ net k t o, rRest (runS σ1 net np no k) t o = rRest (runS σ net np no k) t o := fun net k t o => rRest_cg (hrn net k)
    have hrn2 : ∀ net k, gI (runS σ1 net np no k) 94 = gI (runS σ net np no k) 94 := fun net k => (hrn net k).2.1
    have hrn3 : ∀ net k, gI (runS σ1 net np no k) 95 = gI (runS σ net np no k) 95 := fun net k => (hrn net k).2.2.1
    have hrn4 : ∀ net k, anyO (runS σ1 net np no k) no = anyO (runS σ net np no k) no := fun net k => anyO_cg (hrn net k) no
    refine M_ownFloor_n hd hI1 hi (fun σ2 r2 => ?_)
    try simp only [rr91, rr94, rr95, rr96, rr97, rr98, rr99, rr100, rr103, rr104, rr105, rr89, rPay_cg hq, rIn_cg hq, rLive_cg hq, rRest_cg hq, rFloor_cg hq, rAt_cg hq, hown, htl, hrn1, hrn2, hrn3, hrn4]
    exact h σ2 r2
  obtain ⟨o, ho, rfl⟩ := in_of (by omega) hi
  by_cases hj : 0 ≤ j ∧ j < nI np
  rotate_left
  · refine RO_p2 (by decide) hI (fun Rt h => X_ownFloor_p hd hI ho hj h) (fun σ1 hI1 hq rr Rt h => ?_)
    have rr89 : gI σ1 89 = gI σ 89 := rr 89 (by omega)
    have rr91 : gI σ1 91 = gI σ 91 := rr 91 (by omega)
    have rr94 : gI σ1 94 = gI σ 94 := rr 94 (by omega)
    have rr95 : gI σ1 95 = gI σ 95 := rr 95 (by omega)
    have rr96 : gI σ1 96 = gI σ 96 := rr 96 (by omega)
    have rr97 : gI σ1 97 = gI σ 97 := rr 97 (by omega)
    have rr98 : gI σ1 98 = gI σ 98 := rr 98 (by omega)
    have rr99 : gI σ1 99 = gI σ 99 := rr 99 (by omega)
    have rr100 : gI σ1 100 = gI σ 100 := rr 100 (by omega)
    have rr103 : gI σ1 103 = gI σ 103 := rr 103 (by omega)
    have rr104 : gI σ1 104 = gI σ 104 := rr 104 (by omega)
    have rr105 : gI σ1 105 = gI σ 105 := rr 105 (by omega)
    have hown : ∀ o p net, rOwn σ1 o p net = rOwn σ o p net := fun o p net => congrFun (rOwn_cg (p := p) (net := net) hq) o
    have htl : ∀ t net wk, rTl σ1 t net wk = rTl σ t net wk := fun t net wk => rTl_cg rr91
    have hrn : ∀ net k, RQ (runS σ1 net np no k) (runS σ net np no k) := fun net k => runS_cg (RQ_00 hq) hI.2.1.2.1.1.2.2 k
    have hrn1 : ∀ net k t o, rRest (runS σ1 net np no k) t o = rRest (runS σ net np no k) t o := fun net k t o => rRest_cg (hrn net k)
    have hrn2 : ∀ net k, gI (runS σ1 net np no k) 94 = gI (runS σ net np no k) 94 := fun net k => (hrn net k).2.1
    have hrn3 : ∀ net k, gI (runS σ1 net np no k) 95 = gI (runS σ net np no k) 95 := fun net k => (hrn net k).2.2.1
    have hrn4 : ∀ net k, anyO (runS σ1 net np no k) no = anyO (runS σ net np no k) no := fun net k => anyO_cg (hrn net k) no
    refine M_ownFloor_p hd hI1 ho hj (fun σ2 r2 => ?_)
    try simp only [rr91, rr94, rr95, rr96, rr97, rr98, rr99, rr100, rr103, rr104, rr105, rr89, rPay_cg hq, rIn_cg hq, rLive_cg hq, rRest_cg hq, rFloor_cg hq, rAt_cg hq, hown, htl, hrn1, hrn2, hrn3, hrn4]
    exact h σ2 r2
  obtain ⟨p, hp, rfl⟩ := in_of (by omega) hj
  by_cases hnet : 0 ≤ net ∧ net ≤ 9999
  rotate_left
  · refine RO_p2 (by decide) hI (fun Rt h => X_ownFloor_b hd hI ho hp hnet h) (fun σ1 hI1 hq rr Rt h => ?_)
    have rr89 : gI σ1 89 = gI σ 89 := rr 89 (by omega)
    have rr91 : gI σ1 91 = gI σ 91 := rr 91 (by omega)
    have rr94 : gI σ1 94 = gI σ 94 := rr 94 (by omega)
    have rr95 : gI σ1 95 = gI σ 95 := rr 95 (by omega)
    have rr96 : gI σ1 96 = gI σ 96 := rr 96 (by omega)
    have rr97 : gI σ1 97 = gI σ 97 := rr 97 (by omega)
    have rr98 : gI σ1 98 = gI σ 98 := rr 98 (by omega)
    have rr99 : gI σ1 99 = gI σ 99 := rr 99 (by omega)
    have rr100 : gI σ1 100 = gI σ 100 := rr 100 (by omega)
    have rr103 : gI σ1 103 = gI σ 103 := rr 103 (by omega)
    have rr104 : gI σ1 104 = gI σ 104 := rr 104 (by omega)
    have rr105 : gI σ1 105 = gI σ 105 := rr 105 (by omega)
    have hown : ∀ o p net, rOwn σ1 o p net = rOwn σ o p net := fun o p net => congrFun (rOwn_cg (p := p) (net := net) hq) o
    have htl : ∀ t net wk, rTl σ1 t net wk = rTl σ t net wk := fun t net wk => rTl_cg rr91
    have hrn : ∀ net k, RQ (runS σ1 net np no k) (runS σ net np no k) := fun net k => runS_cg (RQ_00 hq) hI.2.1.2.1.1.2.2 k
    have hrn1 : ∀ net k t o, rRest (runS σ1 net np no k) t o = rRest (runS σ net np no k) t o := fun net k t o => rRest_cg (hrn net k)
    have hrn2 : ∀ net k, gI (runS σ1 net np no k) 94 = gI (runS σ net np no k) 94 := fun net k => (hrn net k).2.1
    have hrn3 : ∀ net k, gI (runS σ1 net np no k) 95 = gI (runS σ net np no k) 95 := fun net k => (hrn net k).2.2.1
    have hrn4 : ∀ net k, anyO (runS σ1 net np no k) no = anyO (runS σ net np no k) no := fun net k => anyO_cg (hrn net k) no
    refine M_ownFloor_b hd hI1 ho hp hnet (fun σ2 r2 => ?_)
    try simp only [rr91, rr94, rr95, rr96, rr97, rr98, rr99, rr100, rr103, rr104, rr105, rr89, rPay_cg hq, rIn_cg hq, rLive_cg hq, rRest_cg hq, rFloor_cg hq, rAt_cg hq, hown, htl, hrn1, hrn2, hrn3, hrn4]
    exact h σ2 r2
  · refine RO_p2 (by decide) hI (fun Rt h => X_ownFloor_t hd hI ho hp hnet h) (fun σ1 hI1 hq rr Rt h => ?_)
    have rr89 : gI σ1 89 = gI σ 89 := rr 89 (by omega)
    have rr91 : gI σ1 91 = gI σ 91 := rr 91 (by omega)
    have rr94 : gI σ1 94 = gI σ 94 := rr 94 (by omega)
    have rr95 : gI σ1 95 = gI σ 95 := rr 95 (by omega)
    have rr96 : gI σ1 96 = gI σ 96 := rr 96 (by omega)
    have rr97 : gI σ1 97 = gI σ 97 := rr 97 (by omega)
    have rr98 : gI σ1 98 = gI σ 98 := rr 98 (by omega)
    have rr99 : gI σ1 99 = gI σ 99 := rr 99 (by omega)
    have rr100 : gI σ1 100 = gI σ 100 := rr 100 (by omega)
    have rr103 : gI σ1 103 = gI σ 103 := rr 103 (by omega)
    have rr104 : gI σ1 104 = gI σ 104 := rr 104 (by omega)
    have rr105 : gI σ1 105 = gI σ 105 := rr 105 (by omega)
    have hown : ∀ o p net, rOwn σ1 o p net = rOwn σ o p net := fun o p net => congrFun (rOwn_cg (p := p) (net := net) hq) o
    have htl : ∀ t net wk, rTl σ1 t net wk = rTl σ t net wk := fun t net wk => rTl_cg rr91
    have hrn : ∀ net k, RQ (runS σ1 net np no k) (runS σ net np no k) := fun net k => runS_cg (RQ_00 hq) hI.2.1.2.1.1.2.2 k
    have hrn1 : ∀ net k t o, rRest (runS σ1 net np no k) t o = rRest (runS σ net np no k) t o := fun net k t o => rRest_cg (hrn net k)
    have hrn2 : ∀ net k, gI (runS σ1 net np no k) 94 = gI (runS σ net np no k) 94 := fun net k => (hrn net k).2.1
    have hrn3 : ∀ net k, gI (runS σ1 net np no k) 95 = gI (runS σ net np no k) 95 := fun net k => (hrn net k).2.2.1
    have hrn4 : ∀ net k, anyO (runS σ1 net np no k) no = anyO (runS σ net np no k) no := fun net k => anyO_cg (hrn net k) no
    refine M_ownFloor_t hd hI1 ho hp hnet (fun σ2 r2 => ?_)
    try simp only [rr91, rr94, rr95, rr96, rr97, rr98, rr99, rr100, rr103, rr104, rr105, rr89, rPay_cg hq, rIn_cg hq, rLive_cg hq, rRest_cg hq, rFloor_cg hq, rAt_cg hq, hown, htl, hrn1, hrn2, hrn3, hrn4]
    exact h σ2 r2
theorem PC_table (hd : 14 ≤ d) (hI : InvB σ b b' nt np no K nx T (999999 * c)) (hc : c ≤ 512) : Pair d q_X9_table q_X10_table [.ref 0, .int i, .int net, .int wk] [.ref 89, .int i, .int net, .int wk] σ (fun σ2 => INV σ2 (c + 1)) := by
  have hb1 := hI.2.1.2.1.1
  have hB : (999999 * (c : Int)) ≤ 1000000000 := by omega
  by_cases hi : 0 ≤ i ∧ i < nI nt
  rotate_left
  · by_cases hp : 0 < np
    · refine RO_p2 (by decide) hI (fun Rt h => X_table_n hd hI hi h) (fun σ1 hI1 hq rr Rt h => ?_)
      have rr89 : gI σ1 89 = gI σ 89 := rr 89 (by omega)
      have rr91 : gI σ1 91 = gI σ 91 := rr 91 (by omega)
      have rr94 : gI σ1 94 = gI σ 94 := rr 94 (by omega)
      have rr95 : gI σ1 95 = gI σ 95 := rr 95 (by omega)
      have rr96 : gI σ1 96 = gI σ 96 := rr 96 (by omega)
      have rr97 : gI σ1 97 = gI σ 97 := rr 97 (by omega)
      have rr98 : gI σ1 98 = gI σ 98 := rr 98 (by omega)
      have rr99 : gI σ1 99 = gI σ 99 := rr 99 (by omega)
      have rr100 : gI σ1 100 = gI σ 100 := rr 100 (by omega)
      have rr103 : gI σ1 103 = gI σ 103 := rr 103 (by omega)
      have rr104 : gI σ1 104 = gI σ 104 := rr 104 (by omega)
      have rr105 : gI σ1 105 = gI σ 105 := rr 105 (by omega)
      have hown : ∀ o p net, rOwn σ1 o p net = rOwn σ o p net := fun o p net => congrFun (rOwn_cg (p := p) (net := net) hq) o
      have htl : ∀ t net wk, rTl σ1 t net wk = rTl σ t net wk := fun t net wk => rTl_cg rr91
      have hrn : ∀ net k, RQ (runS σ1 net np no k) (runS σ net np no k) := fun net k => runS_cg (RQ_00 hq) hI.2.1.2.1.1.2.2 k
      have hrn1 : ∀ net k t o, rRest (runS σ1 net np no k) t o = rRest (runS σ net np no k) t o := fun net k t o => rRest_cg (hrn net k)
      have hrn2 : ∀ net k, gI (runS σ1 net np no k) 94 = gI (runS σ net np no k) 94 := fun net k => (hrn net k).2.1
      have hrn3 : ∀ net k, gI (runS σ1 net np no k) 95 = gI (runS σ net np no k) 95 := fun net k => (hrn net k).2.2.1
      have hrn4 : ∀ net k, anyO (runS σ1 net np no k) no = anyO (runS σ net np no k) no := fun net k => anyO_cg (hrn net k) no
      refine M_table_n hd hI1 hi hp (fun σ2 r2 => ?_)
      try simp only [rr91, rr94, rr95, rr96, rr97, rr98, rr99, rr100, rr103, rr104, rr105, rr89, rPay_cg hq, rIn_cg hq, rLive_cg hq, rRest_cg hq, rFloor_cg hq, rAt_cg hq, hown, htl, hrn1, hrn2, hrn3, hrn4]
      exact h σ2 r2
    have hp0 : np = 0 := by omega
    · refine RO_p2 (by decide) hI (fun Rt h => X_table_n hd hI hi h) (fun σ1 hI1 hq rr Rt h => ?_)
      have rr89 : gI σ1 89 = gI σ 89 := rr 89 (by omega)
      have rr91 : gI σ1 91 = gI σ 91 := rr 91 (by omega)
      have rr94 : gI σ1 94 = gI σ 94 := rr 94 (by omega)
      have rr95 : gI σ1 95 = gI σ 95 := rr 95 (by omega)
      have rr96 : gI σ1 96 = gI σ 96 := rr 96 (by omega)
      have rr97 : gI σ1 97 = gI σ 97 := rr 97 (by omega)
      have rr98 : gI σ1 98 = gI σ 98 := rr 98 (by omega)
      have rr99 : gI σ1 99 = gI σ 99 := rr 99 (by omega)
      have rr100 : gI σ1 100 = gI σ 100 := rr 100 (by omega)
      have rr103 : gI σ1 103 = gI σ 103 := rr 103 (by omega)
      have rr104 : gI σ1 104 = gI σ 104 := rr 104 (by omega)
      have rr105 : gI σ1 105 = gI σ 105 := rr 105 (by omega)
      have hown : ∀ o p net, rOwn σ1 o p net = rOwn σ o p net := fun o p net => congrFun (rOwn_cg (p := p) (net := net) hq) o
      have htl : ∀ t net wk, rTl σ1 t net wk = rTl σ t net wk := fun t net wk => rTl_cg rr91
      have hrn : ∀ net k, RQ (runS σ1 net np no k) (runS σ net np no k) := fun net k => runS_cg (RQ_00 hq) hI.2.1.2.1.1.2.2 k
      have hrn1 : ∀ net k t o, rRest (runS σ1 net np no k) t o = rRest (runS σ net np no k) t o := fun net k t o => rRest_cg (hrn net k)
      have hrn2 : ∀ net k, gI (runS σ1 net np no k) 94 = gI (runS σ net np no k) 94 := fun net k => (hrn net k).2.1
      have hrn3 : ∀ net k, gI (runS σ1 net np no k) 95 = gI (runS σ net np no k) 95 := fun net k => (hrn net k).2.2.1
      have hrn4 : ∀ net k, anyO (runS σ1 net np no k) no = anyO (runS σ net np no k) no := fun net k => anyO_cg (hrn net k) no
      refine M_table_m hd hI1 hi hp0 (fun σ2 r2 => ?_)
      try simp only [rr91, rr94, rr95, rr96, rr97, rr98, rr99, rr100, rr103, rr104, rr105, rr89, rPay_cg hq, rIn_cg hq, rLive_cg hq, rRest_cg hq, rFloor_cg hq, rAt_cg hq, hown, htl, hrn1, hrn2, hrn3, hrn4]
      exact h σ2 r2
  obtain ⟨t, ht, rfl⟩ := in_of (by omega) hi
  by_cases hnet : 0 ≤ net ∧ net ≤ 9999
  rotate_left
  · refine RO_p2 (by decide) hI (fun Rt h => X_table_b hd hI ht hnet h) (fun σ1 hI1 hq rr Rt h => ?_)
    have rr89 : gI σ1 89 = gI σ 89 := rr 89 (by omega)
    have rr91 : gI σ1 91 = gI σ 91 := rr 91 (by omega)
    have rr94 : gI σ1 94 = gI σ 94 := rr 94 (by omega)
    have rr95 : gI σ1 95 = gI σ 95 := rr 95 (by omega)
    have rr96 : gI σ1 96 = gI σ 96 := rr 96 (by omega)
    have rr97 : gI σ1 97 = gI σ 97 := rr 97 (by omega)
    have rr98 : gI σ1 98 = gI σ 98 := rr 98 (by omega)
    have rr99 : gI σ1 99 = gI σ 99 := rr 99 (by omega)
    have rr100 : gI σ1 100 = gI σ 100 := rr 100 (by omega)
    have rr103 : gI σ1 103 = gI σ 103 := rr 103 (by omega)
    have rr104 : gI σ1 104 = gI σ 104 := rr 104 (by omega)
    have rr105 : gI σ1 105 = gI σ 105 := rr 105 (by omega)
    have hown : ∀ o p net, rOwn σ1 o p net = rOwn σ o p net := fun o p net => congrFun (rOwn_cg (p := p) (net := net) hq) o
    have htl : ∀ t net wk, rTl σ1 t net wk = rTl σ t net wk := fun t net wk => rTl_cg rr91
    have hrn : ∀ net k, RQ (runS σ1 net np no k) (runS σ net np no k) := fun net k => runS_cg (RQ_00 hq) hI.2.1.2.1.1.2.2 k
    have hrn1 : ∀ net k t o, rRest (runS σ1 net np no k) t o = rRest (runS σ net np no k) t o := fun net k t o => rRest_cg (hrn net k)
    have hrn2 : ∀ net k, gI (runS σ1 net np no k) 94 = gI (runS σ net np no k) 94 := fun net k => (hrn net k).2.1
    have hrn3 : ∀ net k, gI (runS σ1 net np no k) 95 = gI (runS σ net np no k) 95 := fun net k => (hrn net k).2.2.1
    have hrn4 : ∀ net k, anyO (runS σ1 net np no k) no = anyO (runS σ net np no k) no := fun net k => anyO_cg (hrn net k) no
    refine M_table_b hd hI1 ht hnet (fun σ2 r2 => ?_)
    try simp only [rr91, rr94, rr95, rr96, rr97, rr98, rr99, rr100, rr103, rr104, rr105, rr89, rPay_cg hq, rIn_cg hq, rLive_cg hq, rRest_cg hq, rFloor_cg hq, rAt_cg hq, hown, htl, hrn1, hrn2, hrn3, hrn4]
    exact h σ2 r2
  by_cases hwk : 1 ≤ wk ∧ wk ≤ 4
  rotate_left
  · refine RO_p2 (by decide) hI (fun Rt h => X_table_k hd hI ht hnet hwk h) (fun σ1 hI1 hq rr Rt h => ?_)
    have rr89 : gI σ1 89 = gI σ 89 := rr 89 (by omega)
    have rr91 : gI σ1 91 = gI σ 91 := rr 91 (by omega)
    have rr94 : gI σ1 94 = gI σ 94 := rr 94 (by omega)
    have rr95 : gI σ1 95 = gI σ 95 := rr 95 (by omega)
    have rr96 : gI σ1 96 = gI σ 96 := rr 96 (by omega)
    have rr97 : gI σ1 97 = gI σ 97 := rr 97 (by omega)
    have rr98 : gI σ1 98 = gI σ 98 := rr 98 (by omega)
    have rr99 : gI σ1 99 = gI σ 99 := rr 99 (by omega)
    have rr100 : gI σ1 100 = gI σ 100 := rr 100 (by omega)
    have rr103 : gI σ1 103 = gI σ 103 := rr 103 (by omega)
    have rr104 : gI σ1 104 = gI σ 104 := rr 104 (by omega)
    have rr105 : gI σ1 105 = gI σ 105 := rr 105 (by omega)
    have hown : ∀ o p net, rOwn σ1 o p net = rOwn σ o p net := fun o p net => congrFun (rOwn_cg (p := p) (net := net) hq) o
    have htl : ∀ t net wk, rTl σ1 t net wk = rTl σ t net wk := fun t net wk => rTl_cg rr91
    have hrn : ∀ net k, RQ (runS σ1 net np no k) (runS σ net np no k) := fun net k => runS_cg (RQ_00 hq) hI.2.1.2.1.1.2.2 k
    have hrn1 : ∀ net k t o, rRest (runS σ1 net np no k) t o = rRest (runS σ net np no k) t o := fun net k t o => rRest_cg (hrn net k)
    have hrn2 : ∀ net k, gI (runS σ1 net np no k) 94 = gI (runS σ net np no k) 94 := fun net k => (hrn net k).2.1
    have hrn3 : ∀ net k, gI (runS σ1 net np no k) 95 = gI (runS σ net np no k) 95 := fun net k => (hrn net k).2.2.1
    have hrn4 : ∀ net k, anyO (runS σ1 net np no k) no = anyO (runS σ net np no k) no := fun net k => anyO_cg (hrn net k) no
    refine M_table_k hd hI1 ht hnet hwk (fun σ2 r2 => ?_)
    try simp only [rr91, rr94, rr95, rr96, rr97, rr98, rr99, rr100, rr103, rr104, rr105, rr89, rPay_cg hq, rIn_cg hq, rLive_cg hq, rRest_cg hq, rFloor_cg hq, rAt_cg hq, hown, htl, hrn1, hrn2, hrn3, hrn4]
    exact h σ2 r2
  · refine RO_p2 (by decide) hI (fun Rt h => X_table_t hd hI ht hnet hwk h) (fun σ1 hI1 hq rr Rt h => ?_)
    have rr89 : gI σ1 89 = gI σ 89 := rr 89 (by omega)
    have rr91 : gI σ1 91 = gI σ 91 := rr 91 (by omega)
    have rr94 : gI σ1 94 = gI σ 94 := rr 94 (by omega)
    have rr95 : gI σ1 95 = gI σ 95 := rr 95 (by omega)
    have rr96 : gI σ1 96 = gI σ 96 := rr 96 (by omega)
    have rr97 : gI σ1 97 = gI σ 97 := rr 97 (by omega)
    have rr98 : gI σ1 98 = gI σ 98 := rr 98 (by omega)
    have rr99 : gI σ1 99 = gI σ 99 := rr 99 (by omega)
    have rr100 : gI σ1 100 = gI σ 100 := rr 100 (by omega)
    have rr103 : gI σ1 103 = gI σ 103 := rr 103 (by omega)
    have rr104 : gI σ1 104 = gI σ 104 := rr 104 (by omega)
    have rr105 : gI σ1 105 = gI σ 105 := rr 105 (by omega)
    have hown : ∀ o p net, rOwn σ1 o p net = rOwn σ o p net := fun o p net => congrFun (rOwn_cg (p := p) (net := net) hq) o
    have htl : ∀ t net wk, rTl σ1 t net wk = rTl σ t net wk := fun t net wk => rTl_cg rr91
    have hrn : ∀ net k, RQ (runS σ1 net np no k) (runS σ net np no k) := fun net k => runS_cg (RQ_00 hq) hI.2.1.2.1.1.2.2 k
    have hrn1 : ∀ net k t o, rRest (runS σ1 net np no k) t o = rRest (runS σ net np no k) t o := fun net k t o => rRest_cg (hrn net k)
    have hrn2 : ∀ net k, gI (runS σ1 net np no k) 94 = gI (runS σ net np no k) 94 := fun net k => (hrn net k).2.1
    have hrn3 : ∀ net k, gI (runS σ1 net np no k) 95 = gI (runS σ net np no k) 95 := fun net k => (hrn net k).2.2.1
    have hrn4 : ∀ net k, anyO (runS σ1 net np no k) no = anyO (runS σ net np no k) no := fun net k => anyO_cg (hrn net k) no
    refine M_table_t hd hI1 ht hnet hwk (fun σ2 r2 => ?_)
    try simp only [rr91, rr94, rr95, rr96, rr97, rr98, rr99, rr100, rr103, rr104, rr105, rr89, rPay_cg hq, rIn_cg hq, rLive_cg hq, rRest_cg hq, rFloor_cg hq, rAt_cg hq, hown, htl, hrn1, hrn2, hrn3, hrn4]
    exact h σ2 r2
theorem PC_row (hd : 14 ≤ d) (hI : InvB σ b b' nt np no K nx T (999999 * c)) (hc : c ≤ 512) : Pair d q_X9_row q_X10_row [.ref 0, .int i, .int j, .int what] [.ref 89, .int i, .int j, .int what] σ (fun σ2 => INV σ2 (c + 1)) := by
  have hb1 := hI.2.1.2.1.1
  have hB : (999999 * (c : Int)) ≤ 1000000000 := by omega
  by_cases hi : 0 ≤ i ∧ i < nI nt
  rotate_left
  · by_cases hp : 0 < np
    · refine RO_p2 (by decide) hI (fun Rt h => X_row_n hd hI hi h) (fun σ1 hI1 hq rr Rt h => ?_)
      have rr89 : gI σ1 89 = gI σ 89 := rr 89 (by omega)
      have rr91 : gI σ1 91 = gI σ 91 := rr 91 (by omega)
      have rr94 : gI σ1 94 = gI σ 94 := rr 94 (by omega)
      have rr95 : gI σ1 95 = gI σ 95 := rr 95 (by omega)
      have rr96 : gI σ1 96 = gI σ 96 := rr 96 (by omega)
      have rr97 : gI σ1 97 = gI σ 97 := rr 97 (by omega)
      have rr98 : gI σ1 98 = gI σ 98 := rr 98 (by omega)
      have rr99 : gI σ1 99 = gI σ 99 := rr 99 (by omega)
      have rr100 : gI σ1 100 = gI σ 100 := rr 100 (by omega)
      have rr103 : gI σ1 103 = gI σ 103 := rr 103 (by omega)
      have rr104 : gI σ1 104 = gI σ 104 := rr 104 (by omega)
      have rr105 : gI σ1 105 = gI σ 105 := rr 105 (by omega)
      have hown : ∀ o p net, rOwn σ1 o p net = rOwn σ o p net := fun o p net => congrFun (rOwn_cg (p := p) (net := net) hq) o
      have htl : ∀ t net wk, rTl σ1 t net wk = rTl σ t net wk := fun t net wk => rTl_cg rr91
      have hrn : ∀ net k, RQ (runS σ1 net np no k) (runS σ net np no k) := fun net k => runS_cg (RQ_00 hq) hI.2.1.2.1.1.2.2 k
      have hrn1 : ∀ net k t o, rRest (runS σ1 net np no k) t o = rRest (runS σ net np no k) t o := fun net k t o => rRest_cg (hrn net k)
      have hrn2 : ∀ net k, gI (runS σ1 net np no k) 94 = gI (runS σ net np no k) 94 := fun net k => (hrn net k).2.1
      have hrn3 : ∀ net k, gI (runS σ1 net np no k) 95 = gI (runS σ net np no k) 95 := fun net k => (hrn net k).2.2.1
      have hrn4 : ∀ net k, anyO (runS σ1 net np no k) no = anyO (runS σ net np no k) no := fun net k => anyO_cg (hrn net k) no
      refine M_row_n hd hI1 hi hp (fun σ2 r2 => ?_)
      try simp only [rr91, rr94, rr95, rr96, rr97, rr98, rr99, rr100, rr103, rr104, rr105, rr89, rPay_cg hq, rIn_cg hq, rLive_cg hq, rRest_cg hq, rFloor_cg hq, rAt_cg hq, hown, htl, hrn1, hrn2, hrn3, hrn4]
      exact h σ2 r2
    have hp0 : np = 0 := by omega
    · refine RO_p2 (by decide) hI (fun Rt h => X_row_n hd hI hi h) (fun σ1 hI1 hq rr Rt h => ?_)
      have rr89 : gI σ1 89 = gI σ 89 := rr 89 (by omega)
      have rr91 : gI σ1 91 = gI σ 91 := rr 91 (by omega)
      have rr94 : gI σ1 94 = gI σ 94 := rr 94 (by omega)
      have rr95 : gI σ1 95 = gI σ 95 := rr 95 (by omega)
      have rr96 : gI σ1 96 = gI σ 96 := rr 96 (by omega)
      have rr97 : gI σ1 97 = gI σ 97 := rr 97 (by omega)
      have rr98 : gI σ1 98 = gI σ 98 := rr 98 (by omega)
      have rr99 : gI σ1 99 = gI σ 99 := rr 99 (by omega)
      have rr100 : gI σ1 100 = gI σ 100 := rr 100 (by omega)
      have rr103 : gI σ1 103 = gI σ 103 := rr 103 (by omega)
      have rr104 : gI σ1 104 = gI σ 104 := rr 104 (by omega)
      have rr105 : gI σ1 105 = gI σ 105 := rr 105 (by omega)
      have hown : ∀ o p net, rOwn σ1 o p net = rOwn σ o p net := fun o p net => congrFun (rOwn_cg (p := p) (net := net) hq) o
      have htl : ∀ t net wk, rTl σ1 t net wk = rTl σ t net wk := fun t net wk => rTl_cg rr91
      have hrn : ∀ net k, RQ (runS σ1 net np no k) (runS σ net np no k) := fun net k => runS_cg (RQ_00 hq) hI.2.1.2.1.1.2.2 k
      have hrn1 : ∀ net k t o, rRest (runS σ1 net np no k) t o = rRest (runS σ net np no k) t o := fun net k t o => rRest_cg (hrn net k)
      have hrn2 : ∀ net k, gI (runS σ1 net np no k) 94 = gI (runS σ net np no k) 94 := fun net k => (hrn net k).2.1
      have hrn3 : ∀ net k, gI (runS σ1 net np no k) 95 = gI (runS σ net np no k) 95 := fun net k => (hrn net k).2.2.1
      have hrn4 : ∀ net k, anyO (runS σ1 net np no k) no = anyO (runS σ net np no k) no := fun net k => anyO_cg (hrn net k) no
      refine M_row_m hd hI1 hi hp0 (fun σ2 r2 => ?_)
      try simp only [rr91, rr94, rr95, rr96, rr97, rr98, rr99, rr100, rr103, rr104, rr105, rr89, rPay_cg hq, rIn_cg hq, rLive_cg hq, rRest_cg hq, rFloor_cg hq, rAt_cg hq, hown, htl, hrn1, hrn2, hrn3, hrn4]
      exact h σ2 r2
  obtain ⟨t, ht, rfl⟩ := in_of (by omega) hi
  obtain ⟨m, hm9, hmT, -⟩ := hI.2.1.2.1.2.2.1 t ht
  have hm6 : m ≤ 6 := hmT.1
  by_cases hj0 : 0 ≤ j ∧ j < nI m
  rotate_left
  · have hj : ∀ m', gI σ 91 (9 + t) = nI m' → ¬ (0 ≤ j ∧ j < nI m') := fun m' e => by rw [← e, hm9]; exact hj0
    · refine RO_p2 (by decide) hI (fun Rt h => X_row_j hd hI ht hj h) (fun σ1 hI1 hq rr Rt h => ?_)
      have rr89 : gI σ1 89 = gI σ 89 := rr 89 (by omega)
      have rr91 : gI σ1 91 = gI σ 91 := rr 91 (by omega)
      have rr94 : gI σ1 94 = gI σ 94 := rr 94 (by omega)
      have rr95 : gI σ1 95 = gI σ 95 := rr 95 (by omega)
      have rr96 : gI σ1 96 = gI σ 96 := rr 96 (by omega)
      have rr97 : gI σ1 97 = gI σ 97 := rr 97 (by omega)
      have rr98 : gI σ1 98 = gI σ 98 := rr 98 (by omega)
      have rr99 : gI σ1 99 = gI σ 99 := rr 99 (by omega)
      have rr100 : gI σ1 100 = gI σ 100 := rr 100 (by omega)
      have rr103 : gI σ1 103 = gI σ 103 := rr 103 (by omega)
      have rr104 : gI σ1 104 = gI σ 104 := rr 104 (by omega)
      have rr105 : gI σ1 105 = gI σ 105 := rr 105 (by omega)
      have hown : ∀ o p net, rOwn σ1 o p net = rOwn σ o p net := fun o p net => congrFun (rOwn_cg (p := p) (net := net) hq) o
      have htl : ∀ t net wk, rTl σ1 t net wk = rTl σ t net wk := fun t net wk => rTl_cg rr91
      have hrn : ∀ net k, RQ (runS σ1 net np no k) (runS σ net np no k) := fun net k => runS_cg (RQ_00 hq) hI.2.1.2.1.1.2.2 k
      have hrn1 : ∀ net k t o, rRest (runS σ1 net np no k) t o = rRest (runS σ net np no k) t o := fun net k t o => rRest_cg (hrn net k)
      have hrn2 : ∀ net k, gI (runS σ1 net np no k) 94 = gI (runS σ net np no k) 94 := fun net k => (hrn net k).2.1
      have hrn3 : ∀ net k, gI (runS σ1 net np no k) 95 = gI (runS σ net np no k) 95 := fun net k => (hrn net k).2.2.1
      have hrn4 : ∀ net k, anyO (runS σ1 net np no k) no = anyO (runS σ net np no k) no := fun net k => anyO_cg (hrn net k) no
      have hj' := hj
      try simp only [← rr91, ← rr94, ← rr95, ← rr96, ← rr100, ← rLive_cg hq, ← rRest_cg hq, ← rIn_cg hq] at hj'
      refine M_row_j hd hI1 ht hj' (fun σ2 r2 => ?_)
      try simp only [rr91, rr94, rr95, rr96, rr97, rr98, rr99, rr100, rr103, rr104, rr105, rr89, rPay_cg hq, rIn_cg hq, rLive_cg hq, rRest_cg hq, rFloor_cg hq, rAt_cg hq, hown, htl, hrn1, hrn2, hrn3, hrn4]
      exact h σ2 r2
  obtain ⟨o, ho, rfl⟩ := in_of (by omega) hj0
  have hrw : ∃ m, gI σ 91 (9 + t) = nI m ∧ m ≤ 6 ∧ o < m := ⟨m, hm9, hm6, ho⟩
  by_cases hw : 0 ≤ what ∧ what ≤ 1
  rotate_left
  · refine RO_p2 (by decide) hI (fun Rt h => X_row_w hd hI ht hrw hw h) (fun σ1 hI1 hq rr Rt h => ?_)
    have rr89 : gI σ1 89 = gI σ 89 := rr 89 (by omega)
    have rr91 : gI σ1 91 = gI σ 91 := rr 91 (by omega)
    have rr94 : gI σ1 94 = gI σ 94 := rr 94 (by omega)
    have rr95 : gI σ1 95 = gI σ 95 := rr 95 (by omega)
    have rr96 : gI σ1 96 = gI σ 96 := rr 96 (by omega)
    have rr97 : gI σ1 97 = gI σ 97 := rr 97 (by omega)
    have rr98 : gI σ1 98 = gI σ 98 := rr 98 (by omega)
    have rr99 : gI σ1 99 = gI σ 99 := rr 99 (by omega)
    have rr100 : gI σ1 100 = gI σ 100 := rr 100 (by omega)
    have rr103 : gI σ1 103 = gI σ 103 := rr 103 (by omega)
    have rr104 : gI σ1 104 = gI σ 104 := rr 104 (by omega)
    have rr105 : gI σ1 105 = gI σ 105 := rr 105 (by omega)
    have hown : ∀ o p net, rOwn σ1 o p net = rOwn σ o p net := fun o p net => congrFun (rOwn_cg (p := p) (net := net) hq) o
    have htl : ∀ t net wk, rTl σ1 t net wk = rTl σ t net wk := fun t net wk => rTl_cg rr91
    have hrn : ∀ net k, RQ (runS σ1 net np no k) (runS σ net np no k) := fun net k => runS_cg (RQ_00 hq) hI.2.1.2.1.1.2.2 k
    have hrn1 : ∀ net k t o, rRest (runS σ1 net np no k) t o = rRest (runS σ net np no k) t o := fun net k t o => rRest_cg (hrn net k)
    have hrn2 : ∀ net k, gI (runS σ1 net np no k) 94 = gI (runS σ net np no k) 94 := fun net k => (hrn net k).2.1
    have hrn3 : ∀ net k, gI (runS σ1 net np no k) 95 = gI (runS σ net np no k) 95 := fun net k => (hrn net k).2.2.1
    have hrn4 : ∀ net k, anyO (runS σ1 net np no k) no = anyO (runS σ net np no k) no := fun net k => anyO_cg (hrn net k) no
    have hrw' := hrw
    try simp only [← rr91, ← rr94, ← rr95, ← rr96, ← rr100, ← rLive_cg hq, ← rRest_cg hq, ← rIn_cg hq] at hrw'
    refine M_row_w hd hI1 ht hrw' hw (fun σ2 r2 => ?_)
    try simp only [rr91, rr94, rr95, rr96, rr97, rr98, rr99, rr100, rr103, rr104, rr105, rr89, rPay_cg hq, rIn_cg hq, rLive_cg hq, rRest_cg hq, rFloor_cg hq, rAt_cg hq, hown, htl, hrn1, hrn2, hrn3, hrn4]
    exact h σ2 r2
  obtain ⟨w, hw1, rfl⟩ := in_le (n := 1) (by omega) hw
  have hw_w : w = 0 ∨ w = 1 := by omega
  rcases hw_w with rfl | rfl
  · refine RO_p2 (by decide) hI (fun Rt h => X_row_0 hd hI ht hrw h) (fun σ1 hI1 hq rr Rt h => ?_)
    have rr89 : gI σ1 89 = gI σ 89 := rr 89 (by omega)
    have rr91 : gI σ1 91 = gI σ 91 := rr 91 (by omega)
    have rr94 : gI σ1 94 = gI σ 94 := rr 94 (by omega)
    have rr95 : gI σ1 95 = gI σ 95 := rr 95 (by omega)
    have rr96 : gI σ1 96 = gI σ 96 := rr 96 (by omega)
    have rr97 : gI σ1 97 = gI σ 97 := rr 97 (by omega)
    have rr98 : gI σ1 98 = gI σ 98 := rr 98 (by omega)
    have rr99 : gI σ1 99 = gI σ 99 := rr 99 (by omega)
    have rr100 : gI σ1 100 = gI σ 100 := rr 100 (by omega)
    have rr103 : gI σ1 103 = gI σ 103 := rr 103 (by omega)
    have rr104 : gI σ1 104 = gI σ 104 := rr 104 (by omega)
    have rr105 : gI σ1 105 = gI σ 105 := rr 105 (by omega)
    have hown : ∀ o p net, rOwn σ1 o p net = rOwn σ o p net := fun o p net => congrFun (rOwn_cg (p := p) (net := net) hq) o
    have htl : ∀ t net wk, rTl σ1 t net wk = rTl σ t net wk := fun t net wk => rTl_cg rr91
    have hrn : ∀ net k, RQ (runS σ1 net np no k) (runS σ net np no k) := fun net k => runS_cg (RQ_00 hq) hI.2.1.2.1.1.2.2 k
    have hrn1 : ∀ net k t o, rRest (runS σ1 net np no k) t o = rRest (runS σ net np no k) t o := fun net k t o => rRest_cg (hrn net k)
    have hrn2 : ∀ net k, gI (runS σ1 net np no k) 94 = gI (runS σ net np no k) 94 := fun net k => (hrn net k).2.1
    have hrn3 : ∀ net k, gI (runS σ1 net np no k) 95 = gI (runS σ net np no k) 95 := fun net k => (hrn net k).2.2.1
    have hrn4 : ∀ net k, anyO (runS σ1 net np no k) no = anyO (runS σ net np no k) no := fun net k => anyO_cg (hrn net k) no
    have hrw' := hrw
    try simp only [← rr91, ← rr94, ← rr95, ← rr96, ← rr100, ← rLive_cg hq, ← rRest_cg hq, ← rIn_cg hq] at hrw'
    refine M_row_0 hd hI1 ht hrw' (fun σ2 r2 => ?_)
    try simp only [rr91, rr94, rr95, rr96, rr97, rr98, rr99, rr100, rr103, rr104, rr105, rr89, rPay_cg hq, rIn_cg hq, rLive_cg hq, rRest_cg hq, rFloor_cg hq, rAt_cg hq, hown, htl, hrn1, hrn2, hrn3, hrn4]
    exact h σ2 r2
  · refine RO_p2 (by decide) hI (fun Rt h => X_row_1 hd hI ht hrw h) (fun σ1 hI1 hq rr Rt h => ?_)
    have rr89 : gI σ1 89 = gI σ 89 := rr 89 (by omega)
    have rr91 : gI σ1 91 = gI σ 91 := rr 91 (by omega)
    have rr94 : gI σ1 94 = gI σ 94 := rr 94 (by omega)
    have rr95 : gI σ1 95 = gI σ 95 := rr 95 (by omega)
    have rr96 : gI σ1 96 = gI σ 96 := rr 96 (by omega)
    have rr97 : gI σ1 97 = gI σ 97 := rr 97 (by omega)
    have rr98 : gI σ1 98 = gI σ 98 := rr 98 (by omega)
    have rr99 : gI σ1 99 = gI σ 99 := rr 99 (by omega)
    have rr100 : gI σ1 100 = gI σ 100 := rr 100 (by omega)
    have rr103 : gI σ1 103 = gI σ 103 := rr 103 (by omega)
    have rr104 : gI σ1 104 = gI σ 104 := rr 104 (by omega)
    have rr105 : gI σ1 105 = gI σ 105 := rr 105 (by omega)
    have hown : ∀ o p net, rOwn σ1 o p net = rOwn σ o p net := fun o p net => congrFun (rOwn_cg (p := p) (net := net) hq) o
    have htl : ∀ t net wk, rTl σ1 t net wk = rTl σ t net wk := fun t net wk => rTl_cg rr91
    have hrn : ∀ net k, RQ (runS σ1 net np no k) (runS σ net np no k) := fun net k => runS_cg (RQ_00 hq) hI.2.1.2.1.1.2.2 k
    have hrn1 : ∀ net k t o, rRest (runS σ1 net np no k) t o = rRest (runS σ net np no k) t o := fun net k t o => rRest_cg (hrn net k)
    have hrn2 : ∀ net k, gI (runS σ1 net np no k) 94 = gI (runS σ net np no k) 94 := fun net k => (hrn net k).2.1
    have hrn3 : ∀ net k, gI (runS σ1 net np no k) 95 = gI (runS σ net np no k) 95 := fun net k => (hrn net k).2.2.1
    have hrn4 : ∀ net k, anyO (runS σ1 net np no k) no = anyO (runS σ net np no k) no := fun net k => anyO_cg (hrn net k) no
    have hrw' := hrw
    try simp only [← rr91, ← rr94, ← rr95, ← rr96, ← rr100, ← rLive_cg hq, ← rRest_cg hq, ← rIn_cg hq] at hrw'
    refine M_row_1 hd hI1 ht hrw' (fun σ2 r2 => ?_)
    try simp only [rr91, rr94, rr95, rr96, rr97, rr98, rr99, rr100, rr103, rr104, rr105, rr89, rPay_cg hq, rIn_cg hq, rLive_cg hq, rRest_cg hq, rFloor_cg hq, rAt_cg hq, hown, htl, hrn1, hrn2, hrn3, hrn4]
    exact h σ2 r2
theorem PC_would (hd : 14 ≤ d) (hI : InvB σ b b' nt np no K nx T (999999 * c)) (hc : c ≤ 512) : Pair d q_X9_would q_X10_would [.ref 0, .int i, .int net, .int j, .int what] [.ref 89, .int i, .int net, .int j, .int what] σ (fun σ2 => INV σ2 (c + 1)) := by
  have hb1 := hI.2.1.2.1.1
  have hB : (999999 * (c : Int)) ≤ 1000000000 := by omega
  by_cases hi : 0 ≤ i ∧ i < nI np
  rotate_left
  · refine RO_p2 (by decide) hI (fun Rt h => X_would_n hd hI hi h) (fun σ1 hI1 hq rr Rt h => ?_)
    have rr89 : gI σ1 89 = gI σ 89 := rr 89 (by omega)
    have rr91 : gI σ1 91 = gI σ 91 := rr 91 (by omega)
    have rr94 : gI σ1 94 = gI σ 94 := rr 94 (by omega)
    have rr95 : gI σ1 95 = gI σ 95 := rr 95 (by omega)
    have rr96 : gI σ1 96 = gI σ 96 := rr 96 (by omega)
    have rr97 : gI σ1 97 = gI σ 97 := rr 97 (by omega)
    have rr98 : gI σ1 98 = gI σ 98 := rr 98 (by omega)
    have rr99 : gI σ1 99 = gI σ 99 := rr 99 (by omega)
    have rr100 : gI σ1 100 = gI σ 100 := rr 100 (by omega)
    have rr103 : gI σ1 103 = gI σ 103 := rr 103 (by omega)
    have rr104 : gI σ1 104 = gI σ 104 := rr 104 (by omega)
    have rr105 : gI σ1 105 = gI σ 105 := rr 105 (by omega)
    have hown : ∀ o p net, rOwn σ1 o p net = rOwn σ o p net := fun o p net => congrFun (rOwn_cg (p := p) (net := net) hq) o
    have htl : ∀ t net wk, rTl σ1 t net wk = rTl σ t net wk := fun t net wk => rTl_cg rr91
    have hrn : ∀ net k, RQ (runS σ1 net np no k) (runS σ net np no k) := fun net k => runS_cg (RQ_00 hq) hI.2.1.2.1.1.2.2 k
    have hrn1 : ∀ net k t o, rRest (runS σ1 net np no k) t o = rRest (runS σ net np no k) t o := fun net k t o => rRest_cg (hrn net k)
    have hrn2 : ∀ net k, gI (runS σ1 net np no k) 94 = gI (runS σ net np no k) 94 := fun net k => (hrn net k).2.1
    have hrn3 : ∀ net k, gI (runS σ1 net np no k) 95 = gI (runS σ net np no k) 95 := fun net k => (hrn net k).2.2.1
    have hrn4 : ∀ net k, anyO (runS σ1 net np no k) no = anyO (runS σ net np no k) no := fun net k => anyO_cg (hrn net k) no
    refine M_would_n hd hI1 hi (fun σ2 r2 => ?_)
    try simp only [rr91, rr94, rr95, rr96, rr97, rr98, rr99, rr100, rr103, rr104, rr105, rr89, rPay_cg hq, rIn_cg hq, rLive_cg hq, rRest_cg hq, rFloor_cg hq, rAt_cg hq, hown, htl, hrn1, hrn2, hrn3, hrn4]
    exact h σ2 r2
  obtain ⟨p, hp, rfl⟩ := in_of (by omega) hi
  by_cases hj : 0 ≤ j ∧ j < nI no
  rotate_left
  · refine RO_p2 (by decide) hI (fun Rt h => X_would_o hd hI hp hj h) (fun σ1 hI1 hq rr Rt h => ?_)
    have rr89 : gI σ1 89 = gI σ 89 := rr 89 (by omega)
    have rr91 : gI σ1 91 = gI σ 91 := rr 91 (by omega)
    have rr94 : gI σ1 94 = gI σ 94 := rr 94 (by omega)
    have rr95 : gI σ1 95 = gI σ 95 := rr 95 (by omega)
    have rr96 : gI σ1 96 = gI σ 96 := rr 96 (by omega)
    have rr97 : gI σ1 97 = gI σ 97 := rr 97 (by omega)
    have rr98 : gI σ1 98 = gI σ 98 := rr 98 (by omega)
    have rr99 : gI σ1 99 = gI σ 99 := rr 99 (by omega)
    have rr100 : gI σ1 100 = gI σ 100 := rr 100 (by omega)
    have rr103 : gI σ1 103 = gI σ 103 := rr 103 (by omega)
    have rr104 : gI σ1 104 = gI σ 104 := rr 104 (by omega)
    have rr105 : gI σ1 105 = gI σ 105 := rr 105 (by omega)
    have hown : ∀ o p net, rOwn σ1 o p net = rOwn σ o p net := fun o p net => congrFun (rOwn_cg (p := p) (net := net) hq) o
    have htl : ∀ t net wk, rTl σ1 t net wk = rTl σ t net wk := fun t net wk => rTl_cg rr91
    have hrn : ∀ net k, RQ (runS σ1 net np no k) (runS σ net np no k) := fun net k => runS_cg (RQ_00 hq) hI.2.1.2.1.1.2.2 k
    have hrn1 : ∀ net k t o, rRest (runS σ1 net np no k) t o = rRest (runS σ net np no k) t o := fun net k t o => rRest_cg (hrn net k)
    have hrn2 : ∀ net k, gI (runS σ1 net np no k) 94 = gI (runS σ net np no k) 94 := fun net k => (hrn net k).2.1
    have hrn3 : ∀ net k, gI (runS σ1 net np no k) 95 = gI (runS σ net np no k) 95 := fun net k => (hrn net k).2.2.1
    have hrn4 : ∀ net k, anyO (runS σ1 net np no k) no = anyO (runS σ net np no k) no := fun net k => anyO_cg (hrn net k) no
    refine M_would_o hd hI1 hp hj (fun σ2 r2 => ?_)
    try simp only [rr91, rr94, rr95, rr96, rr97, rr98, rr99, rr100, rr103, rr104, rr105, rr89, rPay_cg hq, rIn_cg hq, rLive_cg hq, rRest_cg hq, rFloor_cg hq, rAt_cg hq, hown, htl, hrn1, hrn2, hrn3, hrn4]
    exact h σ2 r2
  obtain ⟨o, ho, rfl⟩ := in_of (by omega) hj
  by_cases hw : 0 ≤ what ∧ what ≤ 2
  rotate_left
  · refine RO_p2 (by decide) hI (fun Rt h => X_would_w hd hI hp ho hw h) (fun σ1 hI1 hq rr Rt h => ?_)
    have rr89 : gI σ1 89 = gI σ 89 := rr 89 (by omega)
    have rr91 : gI σ1 91 = gI σ 91 := rr 91 (by omega)
    have rr94 : gI σ1 94 = gI σ 94 := rr 94 (by omega)
    have rr95 : gI σ1 95 = gI σ 95 := rr 95 (by omega)
    have rr96 : gI σ1 96 = gI σ 96 := rr 96 (by omega)
    have rr97 : gI σ1 97 = gI σ 97 := rr 97 (by omega)
    have rr98 : gI σ1 98 = gI σ 98 := rr 98 (by omega)
    have rr99 : gI σ1 99 = gI σ 99 := rr 99 (by omega)
    have rr100 : gI σ1 100 = gI σ 100 := rr 100 (by omega)
    have rr103 : gI σ1 103 = gI σ 103 := rr 103 (by omega)
    have rr104 : gI σ1 104 = gI σ 104 := rr 104 (by omega)
    have rr105 : gI σ1 105 = gI σ 105 := rr 105 (by omega)
    have hown : ∀ o p net, rOwn σ1 o p net = rOwn σ o p net := fun o p net => congrFun (rOwn_cg (p := p) (net := net) hq) o
    have htl : ∀ t net wk, rTl σ1 t net wk = rTl σ t net wk := fun t net wk => rTl_cg rr91
    have hrn : ∀ net k, RQ (runS σ1 net np no k) (runS σ net np no k) := fun net k => runS_cg (RQ_00 hq) hI.2.1.2.1.1.2.2 k
    have hrn1 : ∀ net k t o, rRest (runS σ1 net np no k) t o = rRest (runS σ net np no k) t o := fun net k t o => rRest_cg (hrn net k)
    have hrn2 : ∀ net k, gI (runS σ1 net np no k) 94 = gI (runS σ net np no k) 94 := fun net k => (hrn net k).2.1
    have hrn3 : ∀ net k, gI (runS σ1 net np no k) 95 = gI (runS σ net np no k) 95 := fun net k => (hrn net k).2.2.1
    have hrn4 : ∀ net k, anyO (runS σ1 net np no k) no = anyO (runS σ net np no k) no := fun net k => anyO_cg (hrn net k) no
    refine M_would_w hd hI1 hp ho hw (fun σ2 r2 => ?_)
    try simp only [rr91, rr94, rr95, rr96, rr97, rr98, rr99, rr100, rr103, rr104, rr105, rr89, rPay_cg hq, rIn_cg hq, rLive_cg hq, rRest_cg hq, rFloor_cg hq, rAt_cg hq, hown, htl, hrn1, hrn2, hrn3, hrn4]
    exact h σ2 r2
  by_cases hnet : 0 ≤ net ∧ net ≤ 9999
  rotate_left
  · refine RO_p2 (by decide) hI (fun Rt h => X_would_b hd hI hp ho hw hnet h) (fun σ1 hI1 hq rr Rt h => ?_)
    have rr89 : gI σ1 89 = gI σ 89 := rr 89 (by omega)
    have rr91 : gI σ1 91 = gI σ 91 := rr 91 (by omega)
    have rr94 : gI σ1 94 = gI σ 94 := rr 94 (by omega)
    have rr95 : gI σ1 95 = gI σ 95 := rr 95 (by omega)
    have rr96 : gI σ1 96 = gI σ 96 := rr 96 (by omega)
    have rr97 : gI σ1 97 = gI σ 97 := rr 97 (by omega)
    have rr98 : gI σ1 98 = gI σ 98 := rr 98 (by omega)
    have rr99 : gI σ1 99 = gI σ 99 := rr 99 (by omega)
    have rr100 : gI σ1 100 = gI σ 100 := rr 100 (by omega)
    have rr103 : gI σ1 103 = gI σ 103 := rr 103 (by omega)
    have rr104 : gI σ1 104 = gI σ 104 := rr 104 (by omega)
    have rr105 : gI σ1 105 = gI σ 105 := rr 105 (by omega)
    have hown : ∀ o p net, rOwn σ1 o p net = rOwn σ o p net := fun o p net => congrFun (rOwn_cg (p := p) (net := net) hq) o
    have htl : ∀ t net wk, rTl σ1 t net wk = rTl σ t net wk := fun t net wk => rTl_cg rr91
    have hrn : ∀ net k, RQ (runS σ1 net np no k) (runS σ net np no k) := fun net k => runS_cg (RQ_00 hq) hI.2.1.2.1.1.2.2 k
    have hrn1 : ∀ net k t o, rRest (runS σ1 net np no k) t o = rRest (runS σ net np no k) t o := fun net k t o => rRest_cg (hrn net k)
    have hrn2 : ∀ net k, gI (runS σ1 net np no k) 94 = gI (runS σ net np no k) 94 := fun net k => (hrn net k).2.1
    have hrn3 : ∀ net k, gI (runS σ1 net np no k) 95 = gI (runS σ net np no k) 95 := fun net k => (hrn net k).2.2.1
    have hrn4 : ∀ net k, anyO (runS σ1 net np no k) no = anyO (runS σ net np no k) no := fun net k => anyO_cg (hrn net k) no
    refine M_would_b hd hI1 hp ho hw hnet (fun σ2 r2 => ?_)
    try simp only [rr91, rr94, rr95, rr96, rr97, rr98, rr99, rr100, rr103, rr104, rr105, rr89, rPay_cg hq, rIn_cg hq, rLive_cg hq, rRest_cg hq, rFloor_cg hq, rAt_cg hq, hown, htl, hrn1, hrn2, hrn3, hrn4]
    exact h σ2 r2
  obtain ⟨w, hw1, rfl⟩ := in_le (n := 2) (by omega) hw
  have hw_w : w = 0 ∨ w = 1 ∨ w = 2 := by omega
  rcases hw_w with rfl | rfl | rfl
  · refine RO_p2 (by decide) hI (fun Rt h => X_would_0 hd hI hp ho hnet h) (fun σ1 hI1 hq rr Rt h => ?_)
    have rr89 : gI σ1 89 = gI σ 89 := rr 89 (by omega)
    have rr91 : gI σ1 91 = gI σ 91 := rr 91 (by omega)
    have rr94 : gI σ1 94 = gI σ 94 := rr 94 (by omega)
    have rr95 : gI σ1 95 = gI σ 95 := rr 95 (by omega)
    have rr96 : gI σ1 96 = gI σ 96 := rr 96 (by omega)
    have rr97 : gI σ1 97 = gI σ 97 := rr 97 (by omega)
    have rr98 : gI σ1 98 = gI σ 98 := rr 98 (by omega)
    have rr99 : gI σ1 99 = gI σ 99 := rr 99 (by omega)
    have rr100 : gI σ1 100 = gI σ 100 := rr 100 (by omega)
    have rr103 : gI σ1 103 = gI σ 103 := rr 103 (by omega)
    have rr104 : gI σ1 104 = gI σ 104 := rr 104 (by omega)
    have rr105 : gI σ1 105 = gI σ 105 := rr 105 (by omega)
    have hown : ∀ o p net, rOwn σ1 o p net = rOwn σ o p net := fun o p net => congrFun (rOwn_cg (p := p) (net := net) hq) o
    have htl : ∀ t net wk, rTl σ1 t net wk = rTl σ t net wk := fun t net wk => rTl_cg rr91
    have hrn : ∀ net k, RQ (runS σ1 net np no k) (runS σ net np no k) := fun net k => runS_cg (RQ_00 hq) hI.2.1.2.1.1.2.2 k
    have hrn1 : ∀ net k t o, rRest (runS σ1 net np no k) t o = rRest (runS σ net np no k) t o := fun net k t o => rRest_cg (hrn net k)
    have hrn2 : ∀ net k, gI (runS σ1 net np no k) 94 = gI (runS σ net np no k) 94 := fun net k => (hrn net k).2.1
    have hrn3 : ∀ net k, gI (runS σ1 net np no k) 95 = gI (runS σ net np no k) 95 := fun net k => (hrn net k).2.2.1
    have hrn4 : ∀ net k, anyO (runS σ1 net np no k) no = anyO (runS σ net np no k) no := fun net k => anyO_cg (hrn net k) no
    refine M_would_0 hd hI1 hp ho hnet (fun σ2 r2 => ?_)
    try simp only [rr91, rr94, rr95, rr96, rr97, rr98, rr99, rr100, rr103, rr104, rr105, rr89, rPay_cg hq, rIn_cg hq, rLive_cg hq, rRest_cg hq, rFloor_cg hq, rAt_cg hq, hown, htl, hrn1, hrn2, hrn3, hrn4]
    exact h σ2 r2
  · refine RO_p2 (by decide) hI (fun Rt h => X_would_1 hd hI hp ho hnet h) (fun σ1 hI1 hq rr Rt h => ?_)
    have rr89 : gI σ1 89 = gI σ 89 := rr 89 (by omega)
    have rr91 : gI σ1 91 = gI σ 91 := rr 91 (by omega)
    have rr94 : gI σ1 94 = gI σ 94 := rr 94 (by omega)
    have rr95 : gI σ1 95 = gI σ 95 := rr 95 (by omega)
    have rr96 : gI σ1 96 = gI σ 96 := rr 96 (by omega)
    have rr97 : gI σ1 97 = gI σ 97 := rr 97 (by omega)
    have rr98 : gI σ1 98 = gI σ 98 := rr 98 (by omega)
    have rr99 : gI σ1 99 = gI σ 99 := rr 99 (by omega)
    have rr100 : gI σ1 100 = gI σ 100 := rr 100 (by omega)
    have rr103 : gI σ1 103 = gI σ 103 := rr 103 (by omega)
    have rr104 : gI σ1 104 = gI σ 104 := rr 104 (by omega)
    have rr105 : gI σ1 105 = gI σ 105 := rr 105 (by omega)
    have hown : ∀ o p net, rOwn σ1 o p net = rOwn σ o p net := fun o p net => congrFun (rOwn_cg (p := p) (net := net) hq) o
    have htl : ∀ t net wk, rTl σ1 t net wk = rTl σ t net wk := fun t net wk => rTl_cg rr91
    have hrn : ∀ net k, RQ (runS σ1 net np no k) (runS σ net np no k) := fun net k => runS_cg (RQ_00 hq) hI.2.1.2.1.1.2.2 k
    have hrn1 : ∀ net k t o, rRest (runS σ1 net np no k) t o = rRest (runS σ net np no k) t o := fun net k t o => rRest_cg (hrn net k)
    have hrn2 : ∀ net k, gI (runS σ1 net np no k) 94 = gI (runS σ net np no k) 94 := fun net k => (hrn net k).2.1
    have hrn3 : ∀ net k, gI (runS σ1 net np no k) 95 = gI (runS σ net np no k) 95 := fun net k => (hrn net k).2.2.1
    have hrn4 : ∀ net k, anyO (runS σ1 net np no k) no = anyO (runS σ net np no k) no := fun net k => anyO_cg (hrn net k) no
    refine M_would_1 hd hI1 hp ho hnet (fun σ2 r2 => ?_)
    try simp only [rr91, rr94, rr95, rr96, rr97, rr98, rr99, rr100, rr103, rr104, rr105, rr89, rPay_cg hq, rIn_cg hq, rLive_cg hq, rRest_cg hq, rFloor_cg hq, rAt_cg hq, hown, htl, hrn1, hrn2, hrn3, hrn4]
    exact h σ2 r2
  · refine RO_p2 (by decide) hI (fun Rt h => X_would_2 hd hI hp ho hnet h) (fun σ1 hI1 hq rr Rt h => ?_)
    have rr89 : gI σ1 89 = gI σ 89 := rr 89 (by omega)
    have rr91 : gI σ1 91 = gI σ 91 := rr 91 (by omega)
    have rr94 : gI σ1 94 = gI σ 94 := rr 94 (by omega)
    have rr95 : gI σ1 95 = gI σ 95 := rr 95 (by omega)
    have rr96 : gI σ1 96 = gI σ 96 := rr 96 (by omega)
    have rr97 : gI σ1 97 = gI σ 97 := rr 97 (by omega)
    have rr98 : gI σ1 98 = gI σ 98 := rr 98 (by omega)
    have rr99 : gI σ1 99 = gI σ 99 := rr 99 (by omega)
    have rr100 : gI σ1 100 = gI σ 100 := rr 100 (by omega)
    have rr103 : gI σ1 103 = gI σ 103 := rr 103 (by omega)
    have rr104 : gI σ1 104 = gI σ 104 := rr 104 (by omega)
    have rr105 : gI σ1 105 = gI σ 105 := rr 105 (by omega)
    have hown : ∀ o p net, rOwn σ1 o p net = rOwn σ o p net := fun o p net => congrFun (rOwn_cg (p := p) (net := net) hq) o
    have htl : ∀ t net wk, rTl σ1 t net wk = rTl σ t net wk := fun t net wk => rTl_cg rr91
    have hrn : ∀ net k, RQ (runS σ1 net np no k) (runS σ net np no k) := fun net k => runS_cg (RQ_00 hq) hI.2.1.2.1.1.2.2 k
    have hrn1 : ∀ net k t o, rRest (runS σ1 net np no k) t o = rRest (runS σ net np no k) t o := fun net k t o => rRest_cg (hrn net k)
    have hrn2 : ∀ net k, gI (runS σ1 net np no k) 94 = gI (runS σ net np no k) 94 := fun net k => (hrn net k).2.1
    have hrn3 : ∀ net k, gI (runS σ1 net np no k) 95 = gI (runS σ net np no k) 95 := fun net k => (hrn net k).2.2.1
    have hrn4 : ∀ net k, anyO (runS σ1 net np no k) no = anyO (runS σ net np no k) no := fun net k => anyO_cg (hrn net k) no
    refine M_would_2 hd hI1 hp ho hnet (fun σ2 r2 => ?_)
    try simp only [rr91, rr94, rr95, rr96, rr97, rr98, rr99, rr100, rr103, rr104, rr105, rr89, rPay_cg hq, rIn_cg hq, rLive_cg hq, rRest_cg hq, rFloor_cg hq, rAt_cg hq, hown, htl, hrn1, hrn2, hrn3, hrn4]
    exact h σ2 r2
theorem PC_ranked (hd : 14 ≤ d) (hI : InvB σ b b' nt np no K nx T (999999 * c)) (hc : c ≤ 512) : Pair d q_X9_ranked q_X10_ranked [.ref 0, .int i, .int net, .int r] [.ref 89, .int i, .int net, .int r] σ (fun σ2 => INV σ2 (c + 1)) := by
  have hb1 := hI.2.1.2.1.1
  have hB : (999999 * (c : Int)) ≤ 1000000000 := by omega
  by_cases hi : 0 ≤ i ∧ i < nI np
  rotate_left
  · refine RO_p2 (by decide) hI (fun Rt h => X_ranked_n hd hI hi h) (fun σ1 hI1 hq rr Rt h => ?_)
    have rr89 : gI σ1 89 = gI σ 89 := rr 89 (by omega)
    have rr91 : gI σ1 91 = gI σ 91 := rr 91 (by omega)
    have rr94 : gI σ1 94 = gI σ 94 := rr 94 (by omega)
    have rr95 : gI σ1 95 = gI σ 95 := rr 95 (by omega)
    have rr96 : gI σ1 96 = gI σ 96 := rr 96 (by omega)
    have rr97 : gI σ1 97 = gI σ 97 := rr 97 (by omega)
    have rr98 : gI σ1 98 = gI σ 98 := rr 98 (by omega)
    have rr99 : gI σ1 99 = gI σ 99 := rr 99 (by omega)
    have rr100 : gI σ1 100 = gI σ 100 := rr 100 (by omega)
    have rr103 : gI σ1 103 = gI σ 103 := rr 103 (by omega)
    have rr104 : gI σ1 104 = gI σ 104 := rr 104 (by omega)
    have rr105 : gI σ1 105 = gI σ 105 := rr 105 (by omega)
    have hown : ∀ o p net, rOwn σ1 o p net = rOwn σ o p net := fun o p net => congrFun (rOwn_cg (p := p) (net := net) hq) o
    have htl : ∀ t net wk, rTl σ1 t net wk = rTl σ t net wk := fun t net wk => rTl_cg rr91
    have hrn : ∀ net k, RQ (runS σ1 net np no k) (runS σ net np no k) := fun net k => runS_cg (RQ_00 hq) hI.2.1.2.1.1.2.2 k
    have hrn1 : ∀ net k t o, rRest (runS σ1 net np no k) t o = rRest (runS σ net np no k) t o := fun net k t o => rRest_cg (hrn net k)
    have hrn2 : ∀ net k, gI (runS σ1 net np no k) 94 = gI (runS σ net np no k) 94 := fun net k => (hrn net k).2.1
    have hrn3 : ∀ net k, gI (runS σ1 net np no k) 95 = gI (runS σ net np no k) 95 := fun net k => (hrn net k).2.2.1
    have hrn4 : ∀ net k, anyO (runS σ1 net np no k) no = anyO (runS σ net np no k) no := fun net k => anyO_cg (hrn net k) no
    refine M_ranked_n hd hI1 hi (fun σ2 r2 => ?_)
    try simp only [rr91, rr94, rr95, rr96, rr97, rr98, rr99, rr100, rr103, rr104, rr105, rr89, rPay_cg hq, rIn_cg hq, rLive_cg hq, rRest_cg hq, rFloor_cg hq, rAt_cg hq, hown, htl, hrn1, hrn2, hrn3, hrn4]
    exact h σ2 r2
  obtain ⟨p, hp, rfl⟩ := in_of (by omega) hi
  by_cases hnet : 0 ≤ net ∧ net ≤ 9999
  rotate_left
  · refine RO_p2 (by decide) hI (fun Rt h => X_ranked_b hd hI hp hnet h) (fun σ1 hI1 hq rr Rt h => ?_)
    have rr89 : gI σ1 89 = gI σ 89 := rr 89 (by omega)
    have rr91 : gI σ1 91 = gI σ 91 := rr 91 (by omega)
    have rr94 : gI σ1 94 = gI σ 94 := rr 94 (by omega)
    have rr95 : gI σ1 95 = gI σ 95 := rr 95 (by omega)
    have rr96 : gI σ1 96 = gI σ 96 := rr 96 (by omega)
    have rr97 : gI σ1 97 = gI σ 97 := rr 97 (by omega)
    have rr98 : gI σ1 98 = gI σ 98 := rr 98 (by omega)
    have rr99 : gI σ1 99 = gI σ 99 := rr 99 (by omega)
    have rr100 : gI σ1 100 = gI σ 100 := rr 100 (by omega)
    have rr103 : gI σ1 103 = gI σ 103 := rr 103 (by omega)
    have rr104 : gI σ1 104 = gI σ 104 := rr 104 (by omega)
    have rr105 : gI σ1 105 = gI σ 105 := rr 105 (by omega)
    have hown : ∀ o p net, rOwn σ1 o p net = rOwn σ o p net := fun o p net => congrFun (rOwn_cg (p := p) (net := net) hq) o
    have htl : ∀ t net wk, rTl σ1 t net wk = rTl σ t net wk := fun t net wk => rTl_cg rr91
    have hrn : ∀ net k, RQ (runS σ1 net np no k) (runS σ net np no k) := fun net k => runS_cg (RQ_00 hq) hI.2.1.2.1.1.2.2 k
    have hrn1 : ∀ net k t o, rRest (runS σ1 net np no k) t o = rRest (runS σ net np no k) t o := fun net k t o => rRest_cg (hrn net k)
    have hrn2 : ∀ net k, gI (runS σ1 net np no k) 94 = gI (runS σ net np no k) 94 := fun net k => (hrn net k).2.1
    have hrn3 : ∀ net k, gI (runS σ1 net np no k) 95 = gI (runS σ net np no k) 95 := fun net k => (hrn net k).2.2.1
    have hrn4 : ∀ net k, anyO (runS σ1 net np no k) no = anyO (runS σ net np no k) no := fun net k => anyO_cg (hrn net k) no
    refine M_ranked_b hd hI1 hp hnet (fun σ2 r2 => ?_)
    try simp only [rr91, rr94, rr95, rr96, rr97, rr98, rr99, rr100, rr103, rr104, rr105, rr89, rPay_cg hq, rIn_cg hq, rLive_cg hq, rRest_cg hq, rFloor_cg hq, rAt_cg hq, hown, htl, hrn1, hrn2, hrn3, hrn4]
    exact h σ2 r2
  by_cases hr : 1 ≤ r ∧ r ≤ 9
  rotate_left
  · refine RO_p2 (by decide) hI (fun Rt h => X_ranked_r hd hI hp hnet hr h) (fun σ1 hI1 hq rr Rt h => ?_)
    have rr89 : gI σ1 89 = gI σ 89 := rr 89 (by omega)
    have rr91 : gI σ1 91 = gI σ 91 := rr 91 (by omega)
    have rr94 : gI σ1 94 = gI σ 94 := rr 94 (by omega)
    have rr95 : gI σ1 95 = gI σ 95 := rr 95 (by omega)
    have rr96 : gI σ1 96 = gI σ 96 := rr 96 (by omega)
    have rr97 : gI σ1 97 = gI σ 97 := rr 97 (by omega)
    have rr98 : gI σ1 98 = gI σ 98 := rr 98 (by omega)
    have rr99 : gI σ1 99 = gI σ 99 := rr 99 (by omega)
    have rr100 : gI σ1 100 = gI σ 100 := rr 100 (by omega)
    have rr103 : gI σ1 103 = gI σ 103 := rr 103 (by omega)
    have rr104 : gI σ1 104 = gI σ 104 := rr 104 (by omega)
    have rr105 : gI σ1 105 = gI σ 105 := rr 105 (by omega)
    have hown : ∀ o p net, rOwn σ1 o p net = rOwn σ o p net := fun o p net => congrFun (rOwn_cg (p := p) (net := net) hq) o
    have htl : ∀ t net wk, rTl σ1 t net wk = rTl σ t net wk := fun t net wk => rTl_cg rr91
    have hrn : ∀ net k, RQ (runS σ1 net np no k) (runS σ net np no k) := fun net k => runS_cg (RQ_00 hq) hI.2.1.2.1.1.2.2 k
    have hrn1 : ∀ net k t o, rRest (runS σ1 net np no k) t o = rRest (runS σ net np no k) t o := fun net k t o => rRest_cg (hrn net k)
    have hrn2 : ∀ net k, gI (runS σ1 net np no k) 94 = gI (runS σ net np no k) 94 := fun net k => (hrn net k).2.1
    have hrn3 : ∀ net k, gI (runS σ1 net np no k) 95 = gI (runS σ net np no k) 95 := fun net k => (hrn net k).2.2.1
    have hrn4 : ∀ net k, anyO (runS σ1 net np no k) no = anyO (runS σ net np no k) no := fun net k => anyO_cg (hrn net k) no
    refine M_ranked_r hd hI1 hp hnet hr (fun σ2 r2 => ?_)
    try simp only [rr91, rr94, rr95, rr96, rr97, rr98, rr99, rr100, rr103, rr104, rr105, rr89, rPay_cg hq, rIn_cg hq, rLive_cg hq, rRest_cg hq, rFloor_cg hq, rAt_cg hq, hown, htl, hrn1, hrn2, hrn3, hrn4]
    exact h σ2 r2
  · refine RO_p2 (by decide) hI (fun Rt h => X_ranked_t hd hI hp hnet hr h) (fun σ1 hI1 hq rr Rt h => ?_)
    have rr89 : gI σ1 89 = gI σ 89 := rr 89 (by omega)
    have rr91 : gI σ1 91 = gI σ 91 := rr 91 (by omega)
    have rr94 : gI σ1 94 = gI σ 94 := rr 94 (by omega)
    have rr95 : gI σ1 95 = gI σ 95 := rr 95 (by omega)
    have rr96 : gI σ1 96 = gI σ 96 := rr 96 (by omega)
    have rr97 : gI σ1 97 = gI σ 97 := rr 97 (by omega)
    have rr98 : gI σ1 98 = gI σ 98 := rr 98 (by omega)
    have rr99 : gI σ1 99 = gI σ 99 := rr 99 (by omega)
    have rr100 : gI σ1 100 = gI σ 100 := rr 100 (by omega)
    have rr103 : gI σ1 103 = gI σ 103 := rr 103 (by omega)
    have rr104 : gI σ1 104 = gI σ 104 := rr 104 (by omega)
    have rr105 : gI σ1 105 = gI σ 105 := rr 105 (by omega)
    have hown : ∀ o p net, rOwn σ1 o p net = rOwn σ o p net := fun o p net => congrFun (rOwn_cg (p := p) (net := net) hq) o
    have htl : ∀ t net wk, rTl σ1 t net wk = rTl σ t net wk := fun t net wk => rTl_cg rr91
    have hrn : ∀ net k, RQ (runS σ1 net np no k) (runS σ net np no k) := fun net k => runS_cg (RQ_00 hq) hI.2.1.2.1.1.2.2 k
    have hrn1 : ∀ net k t o, rRest (runS σ1 net np no k) t o = rRest (runS σ net np no k) t o := fun net k t o => rRest_cg (hrn net k)
    have hrn2 : ∀ net k, gI (runS σ1 net np no k) 94 = gI (runS σ net np no k) 94 := fun net k => (hrn net k).2.1
    have hrn3 : ∀ net k, gI (runS σ1 net np no k) 95 = gI (runS σ net np no k) 95 := fun net k => (hrn net k).2.2.1
    have hrn4 : ∀ net k, anyO (runS σ1 net np no k) no = anyO (runS σ net np no k) no := fun net k => anyO_cg (hrn net k) no
    refine M_ranked_t hd hI1 hp hnet hr (fun σ2 r2 => ?_)
    try simp only [rr91, rr94, rr95, rr96, rr97, rr98, rr99, rr100, rr103, rr104, rr105, rr89, rPay_cg hq, rIn_cg hq, rLive_cg hq, rRest_cg hq, rFloor_cg hq, rAt_cg hq, hown, htl, hrn1, hrn2, hrn3, hrn4]
    exact h σ2 r2
theorem PC_enough (hd : 14 ≤ d) (hI : InvB σ b b' nt np no K nx T (999999 * c)) (hc : c ≤ 512) : Pair d q_X9_enough q_X10_enough [.ref 0, .int i, .int j] [.ref 89, .int i, .int j] σ (fun σ2 => INV σ2 (c + 1)) := by
  have hb1 := hI.2.1.2.1.1
  have hB : (999999 * (c : Int)) ≤ 1000000000 := by omega
  by_cases hi : 0 ≤ i ∧ i < nI no
  rotate_left
  · refine RO_p2 (by decide) hI (fun Rt h => X_enough_n hd hI hi h) (fun σ1 hI1 hq rr Rt h => ?_)
    have rr89 : gI σ1 89 = gI σ 89 := rr 89 (by omega)
    have rr91 : gI σ1 91 = gI σ 91 := rr 91 (by omega)
    have rr94 : gI σ1 94 = gI σ 94 := rr 94 (by omega)
    have rr95 : gI σ1 95 = gI σ 95 := rr 95 (by omega)
    have rr96 : gI σ1 96 = gI σ 96 := rr 96 (by omega)
    have rr97 : gI σ1 97 = gI σ 97 := rr 97 (by omega)
    have rr98 : gI σ1 98 = gI σ 98 := rr 98 (by omega)
    have rr99 : gI σ1 99 = gI σ 99 := rr 99 (by omega)
    have rr100 : gI σ1 100 = gI σ 100 := rr 100 (by omega)
    have rr103 : gI σ1 103 = gI σ 103 := rr 103 (by omega)
    have rr104 : gI σ1 104 = gI σ 104 := rr 104 (by omega)
    have rr105 : gI σ1 105 = gI σ 105 := rr 105 (by omega)
    have hown : ∀ o p net, rOwn σ1 o p net = rOwn σ o p net := fun o p net => congrFun (rOwn_cg (p := p) (net := net) hq) o
    have htl : ∀ t net wk, rTl σ1 t net wk = rTl σ t net wk := fun t net wk => rTl_cg rr91
    have hrn : ∀ net k, RQ (runS σ1 net np no k) (runS σ net np no k) := fun net k => runS_cg (RQ_00 hq) hI.2.1.2.1.1.2.2 k
    have hrn1 : ∀ net k t o, rRest (runS σ1 net np no k) t o = rRest (runS σ net np no k) t o := fun net k t o => rRest_cg (hrn net k)
    have hrn2 : ∀ net k, gI (runS σ1 net np no k) 94 = gI (runS σ net np no k) 94 := fun net k => (hrn net k).2.1
    have hrn3 : ∀ net k, gI (runS σ1 net np no k) 95 = gI (runS σ net np no k) 95 := fun net k => (hrn net k).2.2.1
    have hrn4 : ∀ net k, anyO (runS σ1 net np no k) no = anyO (runS σ net np no k) no := fun net k => anyO_cg (hrn net k) no
    refine M_enough_n hd hI1 hi (fun σ2 r2 => ?_)
    try simp only [rr91, rr94, rr95, rr96, rr97, rr98, rr99, rr100, rr103, rr104, rr105, rr89, rPay_cg hq, rIn_cg hq, rLive_cg hq, rRest_cg hq, rFloor_cg hq, rAt_cg hq, hown, htl, hrn1, hrn2, hrn3, hrn4]
    exact h σ2 r2
  obtain ⟨o, ho, rfl⟩ := in_of (by omega) hi
  by_cases hj : 0 ≤ j ∧ j < nI np
  rotate_left
  · refine RO_p2 (by decide) hI (fun Rt h => X_enough_p hd hI ho hj h) (fun σ1 hI1 hq rr Rt h => ?_)
    have rr89 : gI σ1 89 = gI σ 89 := rr 89 (by omega)
    have rr91 : gI σ1 91 = gI σ 91 := rr 91 (by omega)
    have rr94 : gI σ1 94 = gI σ 94 := rr 94 (by omega)
    have rr95 : gI σ1 95 = gI σ 95 := rr 95 (by omega)
    have rr96 : gI σ1 96 = gI σ 96 := rr 96 (by omega)
    have rr97 : gI σ1 97 = gI σ 97 := rr 97 (by omega)
    have rr98 : gI σ1 98 = gI σ 98 := rr 98 (by omega)
    have rr99 : gI σ1 99 = gI σ 99 := rr 99 (by omega)
    have rr100 : gI σ1 100 = gI σ 100 := rr 100 (by omega)
    have rr103 : gI σ1 103 = gI σ 103 := rr 103 (by omega)
    have rr104 : gI σ1 104 = gI σ 104 := rr 104 (by omega)
    have rr105 : gI σ1 105 = gI σ 105 := rr 105 (by omega)
    have hown : ∀ o p net, rOwn σ1 o p net = rOwn σ o p net := fun o p net => congrFun (rOwn_cg (p := p) (net := net) hq) o
    have htl : ∀ t net wk, rTl σ1 t net wk = rTl σ t net wk := fun t net wk => rTl_cg rr91
    have hrn : ∀ net k, RQ (runS σ1 net np no k) (runS σ net np no k) := fun net k => runS_cg (RQ_00 hq) hI.2.1.2.1.1.2.2 k
    have hrn1 : ∀ net k t o, rRest (runS σ1 net np no k) t o = rRest (runS σ net np no k) t o := fun net k t o => rRest_cg (hrn net k)
    have hrn2 : ∀ net k, gI (runS σ1 net np no k) 94 = gI (runS σ net np no k) 94 := fun net k => (hrn net k).2.1
    have hrn3 : ∀ net k, gI (runS σ1 net np no k) 95 = gI (runS σ net np no k) 95 := fun net k => (hrn net k).2.2.1
    have hrn4 : ∀ net k, anyO (runS σ1 net np no k) no = anyO (runS σ net np no k) no := fun net k => anyO_cg (hrn net k) no
    refine M_enough_p hd hI1 ho hj (fun σ2 r2 => ?_)
    try simp only [rr91, rr94, rr95, rr96, rr97, rr98, rr99, rr100, rr103, rr104, rr105, rr89, rPay_cg hq, rIn_cg hq, rLive_cg hq, rRest_cg hq, rFloor_cg hq, rAt_cg hq, hown, htl, hrn1, hrn2, hrn3, hrn4]
    exact h σ2 r2
  obtain ⟨p, hp, rfl⟩ := in_of (by omega) hj
  cases hin : rIn σ 0 p o
  · refine RO_p2 (by decide) hI (fun Rt h => X_enough_l hd hI ho hp hin h) (fun σ1 hI1 hq rr Rt h => ?_)
    have rr89 : gI σ1 89 = gI σ 89 := rr 89 (by omega)
    have rr91 : gI σ1 91 = gI σ 91 := rr 91 (by omega)
    have rr94 : gI σ1 94 = gI σ 94 := rr 94 (by omega)
    have rr95 : gI σ1 95 = gI σ 95 := rr 95 (by omega)
    have rr96 : gI σ1 96 = gI σ 96 := rr 96 (by omega)
    have rr97 : gI σ1 97 = gI σ 97 := rr 97 (by omega)
    have rr98 : gI σ1 98 = gI σ 98 := rr 98 (by omega)
    have rr99 : gI σ1 99 = gI σ 99 := rr 99 (by omega)
    have rr100 : gI σ1 100 = gI σ 100 := rr 100 (by omega)
    have rr103 : gI σ1 103 = gI σ 103 := rr 103 (by omega)
    have rr104 : gI σ1 104 = gI σ 104 := rr 104 (by omega)
    have rr105 : gI σ1 105 = gI σ 105 := rr 105 (by omega)
    have hown : ∀ o p net, rOwn σ1 o p net = rOwn σ o p net := fun o p net => congrFun (rOwn_cg (p := p) (net := net) hq) o
    have htl : ∀ t net wk, rTl σ1 t net wk = rTl σ t net wk := fun t net wk => rTl_cg rr91
    have hrn : ∀ net k, RQ (runS σ1 net np no k) (runS σ net np no k) := fun net k => runS_cg (RQ_00 hq) hI.2.1.2.1.1.2.2 k
    have hrn1 : ∀ net k t o, rRest (runS σ1 net np no k) t o = rRest (runS σ net np no k) t o := fun net k t o => rRest_cg (hrn net k)
    have hrn2 : ∀ net k, gI (runS σ1 net np no k) 94 = gI (runS σ net np no k) 94 := fun net k => (hrn net k).2.1
    have hrn3 : ∀ net k, gI (runS σ1 net np no k) 95 = gI (runS σ net np no k) 95 := fun net k => (hrn net k).2.2.1
    have hrn4 : ∀ net k, anyO (runS σ1 net np no k) no = anyO (runS σ net np no k) no := fun net k => anyO_cg (hrn net k) no
    have hin' := hin
    try simp only [← rr91, ← rr94, ← rr95, ← rr96, ← rr100, ← rLive_cg hq, ← rRest_cg hq, ← rIn_cg hq] at hin'
    refine M_enough_l hd hI1 ho hp hin' (fun σ2 r2 => ?_)
    try simp only [rr91, rr94, rr95, rr96, rr97, rr98, rr99, rr100, rr103, rr104, rr105, rr89, rPay_cg hq, rIn_cg hq, rLive_cg hq, rRest_cg hq, rFloor_cg hq, rAt_cg hq, hown, htl, hrn1, hrn2, hrn3, hrn4]
    exact h σ2 r2
  · refine RO_p2 (by decide) hI (fun Rt h => X_enough_t hd hI ho hp hin h) (fun σ1 hI1 hq rr Rt h => ?_)
    have rr89 : gI σ1 89 = gI σ 89 := rr 89 (by omega)
    have rr91 : gI σ1 91 = gI σ 91 := rr 91 (by omega)
    have rr94 : gI σ1 94 = gI σ 94 := rr 94 (by omega)
    have rr95 : gI σ1 95 = gI σ 95 := rr 95 (by omega)
    have rr96 : gI σ1 96 = gI σ 96 := rr 96 (by omega)
    have rr97 : gI σ1 97 = gI σ 97 := rr 97 (by omega)
    have rr98 : gI σ1 98 = gI σ 98 := rr 98 (by omega)
    have rr99 : gI σ1 99 = gI σ 99 := rr 99 (by omega)
    have rr100 : gI σ1 100 = gI σ 100 := rr 100 (by omega)
    have rr103 : gI σ1 103 = gI σ 103 := rr 103 (by omega)
    have rr104 : gI σ1 104 = gI σ 104 := rr 104 (by omega)
    have rr105 : gI σ1 105 = gI σ 105 := rr 105 (by omega)
    have hown : ∀ o p net, rOwn σ1 o p net = rOwn σ o p net := fun o p net => congrFun (rOwn_cg (p := p) (net := net) hq) o
    have htl : ∀ t net wk, rTl σ1 t net wk = rTl σ t net wk := fun t net wk => rTl_cg rr91
    have hrn : ∀ net k, RQ (runS σ1 net np no k) (runS σ net np no k) := fun net k => runS_cg (RQ_00 hq) hI.2.1.2.1.1.2.2 k
    have hrn1 : ∀ net k t o, rRest (runS σ1 net np no k) t o = rRest (runS σ net np no k) t o := fun net k t o => rRest_cg (hrn net k)
    have hrn2 : ∀ net k, gI (runS σ1 net np no k) 94 = gI (runS σ net np no k) 94 := fun net k => (hrn net k).2.1
    have hrn3 : ∀ net k, gI (runS σ1 net np no k) 95 = gI (runS σ net np no k) 95 := fun net k => (hrn net k).2.2.1
    have hrn4 : ∀ net k, anyO (runS σ1 net np no k) no = anyO (runS σ net np no k) no := fun net k => anyO_cg (hrn net k) no
    have hin' := hin
    try simp only [← rr91, ← rr94, ← rr95, ← rr96, ← rr100, ← rLive_cg hq, ← rRest_cg hq, ← rIn_cg hq] at hin'
    refine M_enough_t hd hI1 ho hp hin' (fun σ2 r2 => ?_)
    try simp only [rr91, rr94, rr95, rr96, rr97, rr98, rr99, rr100, rr103, rr104, rr105, rr89, rPay_cg hq, rIn_cg hq, rLive_cg hq, rRest_cg hq, rFloor_cg hq, rAt_cg hq, hown, htl, hrn1, hrn2, hrn3, hrn4]
    exact h σ2 r2
theorem PC_first (hd : 14 ≤ d) (hI : InvB σ b b' nt np no K nx T (999999 * c)) (hc : c ≤ 512) : Pair d q_X9_first q_X10_first [.ref 0, .int i, .int j] [.ref 89, .int i, .int j] σ (fun σ2 => INV σ2 (c + 1)) := by
  have hb1 := hI.2.1.2.1.1
  have hB : (999999 * (c : Int)) ≤ 1000000000 := by omega
  by_cases hi : 0 ≤ i ∧ i < nI no
  rotate_left
  · refine RO_p2 (by decide) hI (fun Rt h => X_first_n hd hI hi h) (fun σ1 hI1 hq rr Rt h => ?_)
    have rr89 : gI σ1 89 = gI σ 89 := rr 89 (by omega)
    have rr91 : gI σ1 91 = gI σ 91 := rr 91 (by omega)
    have rr94 : gI σ1 94 = gI σ 94 := rr 94 (by omega)
    have rr95 : gI σ1 95 = gI σ 95 := rr 95 (by omega)
    have rr96 : gI σ1 96 = gI σ 96 := rr 96 (by omega)
    have rr97 : gI σ1 97 = gI σ 97 := rr 97 (by omega)
    have rr98 : gI σ1 98 = gI σ 98 := rr 98 (by omega)
    have rr99 : gI σ1 99 = gI σ 99 := rr 99 (by omega)
    have rr100 : gI σ1 100 = gI σ 100 := rr 100 (by omega)
    have rr103 : gI σ1 103 = gI σ 103 := rr 103 (by omega)
    have rr104 : gI σ1 104 = gI σ 104 := rr 104 (by omega)
    have rr105 : gI σ1 105 = gI σ 105 := rr 105 (by omega)
    have hown : ∀ o p net, rOwn σ1 o p net = rOwn σ o p net := fun o p net => congrFun (rOwn_cg (p := p) (net := net) hq) o
    have htl : ∀ t net wk, rTl σ1 t net wk = rTl σ t net wk := fun t net wk => rTl_cg rr91
    have hrn : ∀ net k, RQ (runS σ1 net np no k) (runS σ net np no k) := fun net k => runS_cg (RQ_00 hq) hI.2.1.2.1.1.2.2 k
    have hrn1 : ∀ net k t o, rRest (runS σ1 net np no k) t o = rRest (runS σ net np no k) t o := fun net k t o => rRest_cg (hrn net k)
    have hrn2 : ∀ net k, gI (runS σ1 net np no k) 94 = gI (runS σ net np no k) 94 := fun net k => (hrn net k).2.1
    have hrn3 : ∀ net k, gI (runS σ1 net np no k) 95 = gI (runS σ net np no k) 95 := fun net k => (hrn net k).2.2.1
    have hrn4 : ∀ net k, anyO (runS σ1 net np no k) no = anyO (runS σ net np no k) no := fun net k => anyO_cg (hrn net k) no
    refine M_first_n hd hI1 hi (fun σ2 r2 => ?_)
    try simp only [rr91, rr94, rr95, rr96, rr97, rr98, rr99, rr100, rr103, rr104, rr105, rr89, rPay_cg hq, rIn_cg hq, rLive_cg hq, rRest_cg hq, rFloor_cg hq, rAt_cg hq, hown, htl, hrn1, hrn2, hrn3, hrn4]
    exact h σ2 r2
  obtain ⟨o, ho, rfl⟩ := in_of (by omega) hi
  by_cases hj : 0 ≤ j ∧ j < nI np
  rotate_left
  · refine RO_p2 (by decide) hI (fun Rt h => X_first_p hd hI ho hj h) (fun σ1 hI1 hq rr Rt h => ?_)
    have rr89 : gI σ1 89 = gI σ 89 := rr 89 (by omega)
    have rr91 : gI σ1 91 = gI σ 91 := rr 91 (by omega)
    have rr94 : gI σ1 94 = gI σ 94 := rr 94 (by omega)
    have rr95 : gI σ1 95 = gI σ 95 := rr 95 (by omega)
    have rr96 : gI σ1 96 = gI σ 96 := rr 96 (by omega)
    have rr97 : gI σ1 97 = gI σ 97 := rr 97 (by omega)
    have rr98 : gI σ1 98 = gI σ 98 := rr 98 (by omega)
    have rr99 : gI σ1 99 = gI σ 99 := rr 99 (by omega)
    have rr100 : gI σ1 100 = gI σ 100 := rr 100 (by omega)
    have rr103 : gI σ1 103 = gI σ 103 := rr 103 (by omega)
    have rr104 : gI σ1 104 = gI σ 104 := rr 104 (by omega)
    have rr105 : gI σ1 105 = gI σ 105 := rr 105 (by omega)
    have hown : ∀ o p net, rOwn σ1 o p net = rOwn σ o p net := fun o p net => congrFun (rOwn_cg (p := p) (net := net) hq) o
    have htl : ∀ t net wk, rTl σ1 t net wk = rTl σ t net wk := fun t net wk => rTl_cg rr91
    have hrn : ∀ net k, RQ (runS σ1 net np no k) (runS σ net np no k) := fun net k => runS_cg (RQ_00 hq) hI.2.1.2.1.1.2.2 k
    have hrn1 : ∀ net k t o, rRest (runS σ1 net np no k) t o = rRest (runS σ net np no k) t o := fun net k t o => rRest_cg (hrn net k)
    have hrn2 : ∀ net k, gI (runS σ1 net np no k) 94 = gI (runS σ net np no k) 94 := fun net k => (hrn net k).2.1
    have hrn3 : ∀ net k, gI (runS σ1 net np no k) 95 = gI (runS σ net np no k) 95 := fun net k => (hrn net k).2.2.1
    have hrn4 : ∀ net k, anyO (runS σ1 net np no k) no = anyO (runS σ net np no k) no := fun net k => anyO_cg (hrn net k) no
    refine M_first_p hd hI1 ho hj (fun σ2 r2 => ?_)
    try simp only [rr91, rr94, rr95, rr96, rr97, rr98, rr99, rr100, rr103, rr104, rr105, rr89, rPay_cg hq, rIn_cg hq, rLive_cg hq, rRest_cg hq, rFloor_cg hq, rAt_cg hq, hown, htl, hrn1, hrn2, hrn3, hrn4]
    exact h σ2 r2
  obtain ⟨p, hp, rfl⟩ := in_of (by omega) hj
  cases hin : rIn σ 0 p o
  · refine RO_p2 (by decide) hI (fun Rt h => X_first_l hd hI ho hp hin h) (fun σ1 hI1 hq rr Rt h => ?_)
    have rr89 : gI σ1 89 = gI σ 89 := rr 89 (by omega)
    have rr91 : gI σ1 91 = gI σ 91 := rr 91 (by omega)
    have rr94 : gI σ1 94 = gI σ 94 := rr 94 (by omega)
    have rr95 : gI σ1 95 = gI σ 95 := rr 95 (by omega)
    have rr96 : gI σ1 96 = gI σ 96 := rr 96 (by omega)
    have rr97 : gI σ1 97 = gI σ 97 := rr 97 (by omega)
    have rr98 : gI σ1 98 = gI σ 98 := rr 98 (by omega)
    have rr99 : gI σ1 99 = gI σ 99 := rr 99 (by omega)
    have rr100 : gI σ1 100 = gI σ 100 := rr 100 (by omega)
    have rr103 : gI σ1 103 = gI σ 103 := rr 103 (by omega)
    have rr104 : gI σ1 104 = gI σ 104 := rr 104 (by omega)
    have rr105 : gI σ1 105 = gI σ 105 := rr 105 (by omega)
    have hown : ∀ o p net, rOwn σ1 o p net = rOwn σ o p net := fun o p net => congrFun (rOwn_cg (p := p) (net := net) hq) o
    have htl : ∀ t net wk, rTl σ1 t net wk = rTl σ t net wk := fun t net wk => rTl_cg rr91
    have hrn : ∀ net k, RQ (runS σ1 net np no k) (runS σ net np no k) := fun net k => runS_cg (RQ_00 hq) hI.2.1.2.1.1.2.2 k
    have hrn1 : ∀ net k t o, rRest (runS σ1 net np no k) t o = rRest (runS σ net np no k) t o := fun net k t o => rRest_cg (hrn net k)
    have hrn2 : ∀ net k, gI (runS σ1 net np no k) 94 = gI (runS σ net np no k) 94 := fun net k => (hrn net k).2.1
    have hrn3 : ∀ net k, gI (runS σ1 net np no k) 95 = gI (runS σ net np no k) 95 := fun net k => (hrn net k).2.2.1
    have hrn4 : ∀ net k, anyO (runS σ1 net np no k) no = anyO (runS σ net np no k) no := fun net k => anyO_cg (hrn net k) no
    refine M_first_t hd hI1 ho hp (fun σ2 r2 => ?_)
    try simp only [rr91, rr94, rr95, rr96, rr97, rr98, rr99, rr100, rr103, rr104, rr105, rr89, rPay_cg hq, rIn_cg hq, rLive_cg hq, rRest_cg hq, rFloor_cg hq, rAt_cg hq, hown, htl, hrn1, hrn2, hrn3, hrn4]
    exact h σ2 r2
  · refine RO_p2 (by decide) hI (fun Rt h => X_first_t hd hI ho hp hin h) (fun σ1 hI1 hq rr Rt h => ?_)
    have rr89 : gI σ1 89 = gI σ 89 := rr 89 (by omega)
    have rr91 : gI σ1 91 = gI σ 91 := rr 91 (by omega)
    have rr94 : gI σ1 94 = gI σ 94 := rr 94 (by omega)
    have rr95 : gI σ1 95 = gI σ 95 := rr 95 (by omega)
    have rr96 : gI σ1 96 = gI σ 96 := rr 96 (by omega)
    have rr97 : gI σ1 97 = gI σ 97 := rr 97 (by omega)
    have rr98 : gI σ1 98 = gI σ 98 := rr 98 (by omega)
    have rr99 : gI σ1 99 = gI σ 99 := rr 99 (by omega)
    have rr100 : gI σ1 100 = gI σ 100 := rr 100 (by omega)
    have rr103 : gI σ1 103 = gI σ 103 := rr 103 (by omega)
    have rr104 : gI σ1 104 = gI σ 104 := rr 104 (by omega)
    have rr105 : gI σ1 105 = gI σ 105 := rr 105 (by omega)
    have hown : ∀ o p net, rOwn σ1 o p net = rOwn σ o p net := fun o p net => congrFun (rOwn_cg (p := p) (net := net) hq) o
    have htl : ∀ t net wk, rTl σ1 t net wk = rTl σ t net wk := fun t net wk => rTl_cg rr91
    have hrn : ∀ net k, RQ (runS σ1 net np no k) (runS σ net np no k) := fun net k => runS_cg (RQ_00 hq) hI.2.1.2.1.1.2.2 k
    have hrn1 : ∀ net k t o, rRest (runS σ1 net np no k) t o = rRest (runS σ net np no k) t o := fun net k t o => rRest_cg (hrn net k)
    have hrn2 : ∀ net k, gI (runS σ1 net np no k) 94 = gI (runS σ net np no k) 94 := fun net k => (hrn net k).2.1
    have hrn3 : ∀ net k, gI (runS σ1 net np no k) 95 = gI (runS σ net np no k) 95 := fun net k => (hrn net k).2.2.1
    have hrn4 : ∀ net k, anyO (runS σ1 net np no k) no = anyO (runS σ net np no k) no := fun net k => anyO_cg (hrn net k) no
    refine M_first_t hd hI1 ho hp (fun σ2 r2 => ?_)
    try simp only [rr91, rr94, rr95, rr96, rr97, rr98, rr99, rr100, rr103, rr104, rr105, rr89, rPay_cg hq, rIn_cg hq, rLive_cg hq, rRest_cg hq, rFloor_cg hq, rAt_cg hq, hown, htl, hrn1, hrn2, hrn3, hrn4]
    exact h σ2 r2
theorem PC_done (hd : 14 ≤ d) (hI : InvB σ b b' nt np no K nx T (999999 * c)) (hc : c ≤ 512) : Pair d q_X9_done q_X10_done [.ref 0, .int i, .int net] [.ref 89, .int i, .int net] σ (fun σ2 => INV σ2 (c + 1)) := by
  have hb1 := hI.2.1.2.1.1
  have hB : (999999 * (c : Int)) ≤ 1000000000 := by omega
  by_cases hi : 0 ≤ i ∧ i < nI no
  rotate_left
  · refine RO_p2 (by decide) hI (fun Rt h => X_done_n hd hI hi h) (fun σ1 hI1 hq rr Rt h => ?_)
    have rr89 : gI σ1 89 = gI σ 89 := rr 89 (by omega)
    have rr91 : gI σ1 91 = gI σ 91 := rr 91 (by omega)
    have rr94 : gI σ1 94 = gI σ 94 := rr 94 (by omega)
    have rr95 : gI σ1 95 = gI σ 95 := rr 95 (by omega)
    have rr96 : gI σ1 96 = gI σ 96 := rr 96 (by omega)
    have rr97 : gI σ1 97 = gI σ 97 := rr 97 (by omega)
    have rr98 : gI σ1 98 = gI σ 98 := rr 98 (by omega)
    have rr99 : gI σ1 99 = gI σ 99 := rr 99 (by omega)
    have rr100 : gI σ1 100 = gI σ 100 := rr 100 (by omega)
    have rr103 : gI σ1 103 = gI σ 103 := rr 103 (by omega)
    have rr104 : gI σ1 104 = gI σ 104 := rr 104 (by omega)
    have rr105 : gI σ1 105 = gI σ 105 := rr 105 (by omega)
    have hown : ∀ o p net, rOwn σ1 o p net = rOwn σ o p net := fun o p net => congrFun (rOwn_cg (p := p) (net := net) hq) o
    have htl : ∀ t net wk, rTl σ1 t net wk = rTl σ t net wk := fun t net wk => rTl_cg rr91
    have hrn : ∀ net k, RQ (runS σ1 net np no k) (runS σ net np no k) := fun net k => runS_cg (RQ_00 hq) hI.2.1.2.1.1.2.2 k
    have hrn1 : ∀ net k t o, rRest (runS σ1 net np no k) t o = rRest (runS σ net np no k) t o := fun net k t o => rRest_cg (hrn net k)
    have hrn2 : ∀ net k, gI (runS σ1 net np no k) 94 = gI (runS σ net np no k) 94 := fun net k => (hrn net k).2.1
    have hrn3 : ∀ net k, gI (runS σ1 net np no k) 95 = gI (runS σ net np no k) 95 := fun net k => (hrn net k).2.2.1
    have hrn4 : ∀ net k, anyO (runS σ1 net np no k) no = anyO (runS σ net np no k) no := fun net k => anyO_cg (hrn net k) no
    refine M_done_n hd hI1 hi (fun σ2 r2 => ?_)
    try simp only [rr91, rr94, rr95, rr96, rr97, rr98, rr99, rr100, rr103, rr104, rr105, rr89, rPay_cg hq, rIn_cg hq, rLive_cg hq, rRest_cg hq, rFloor_cg hq, rAt_cg hq, hown, htl, hrn1, hrn2, hrn3, hrn4]
    exact h σ2 r2
  obtain ⟨o, ho, rfl⟩ := in_of (by omega) hi
  by_cases hnet : 0 ≤ net ∧ net ≤ 9999
  rotate_left
  · refine RO_p2 (by decide) hI (fun Rt h => X_done_b hd hI ho hnet h) (fun σ1 hI1 hq rr Rt h => ?_)
    have rr89 : gI σ1 89 = gI σ 89 := rr 89 (by omega)
    have rr91 : gI σ1 91 = gI σ 91 := rr 91 (by omega)
    have rr94 : gI σ1 94 = gI σ 94 := rr 94 (by omega)
    have rr95 : gI σ1 95 = gI σ 95 := rr 95 (by omega)
    have rr96 : gI σ1 96 = gI σ 96 := rr 96 (by omega)
    have rr97 : gI σ1 97 = gI σ 97 := rr 97 (by omega)
    have rr98 : gI σ1 98 = gI σ 98 := rr 98 (by omega)
    have rr99 : gI σ1 99 = gI σ 99 := rr 99 (by omega)
    have rr100 : gI σ1 100 = gI σ 100 := rr 100 (by omega)
    have rr103 : gI σ1 103 = gI σ 103 := rr 103 (by omega)
    have rr104 : gI σ1 104 = gI σ 104 := rr 104 (by omega)
    have rr105 : gI σ1 105 = gI σ 105 := rr 105 (by omega)
    have hown : ∀ o p net, rOwn σ1 o p net = rOwn σ o p net := fun o p net => congrFun (rOwn_cg (p := p) (net := net) hq) o
    have htl : ∀ t net wk, rTl σ1 t net wk = rTl σ t net wk := fun t net wk => rTl_cg rr91
    have hrn : ∀ net k, RQ (runS σ1 net np no k) (runS σ net np no k) := fun net k => runS_cg (RQ_00 hq) hI.2.1.2.1.1.2.2 k
    have hrn1 : ∀ net k t o, rRest (runS σ1 net np no k) t o = rRest (runS σ net np no k) t o := fun net k t o => rRest_cg (hrn net k)
    have hrn2 : ∀ net k, gI (runS σ1 net np no k) 94 = gI (runS σ net np no k) 94 := fun net k => (hrn net k).2.1
    have hrn3 : ∀ net k, gI (runS σ1 net np no k) 95 = gI (runS σ net np no k) 95 := fun net k => (hrn net k).2.2.1
    have hrn4 : ∀ net k, anyO (runS σ1 net np no k) no = anyO (runS σ net np no k) no := fun net k => anyO_cg (hrn net k) no
    refine M_done_b hd hI1 ho hnet (fun σ2 r2 => ?_)
    try simp only [rr91, rr94, rr95, rr96, rr97, rr98, rr99, rr100, rr103, rr104, rr105, rr89, rPay_cg hq, rIn_cg hq, rLive_cg hq, rRest_cg hq, rFloor_cg hq, rAt_cg hq, hown, htl, hrn1, hrn2, hrn3, hrn4]
    exact h σ2 r2
  by_cases hz : rRest σ 0 o = 0
  · refine RO_p2 (by decide) hI (fun Rt h => X_done_z hd hI ho hnet hz h) (fun σ1 hI1 hq rr Rt h => ?_)
    have rr89 : gI σ1 89 = gI σ 89 := rr 89 (by omega)
    have rr91 : gI σ1 91 = gI σ 91 := rr 91 (by omega)
    have rr94 : gI σ1 94 = gI σ 94 := rr 94 (by omega)
    have rr95 : gI σ1 95 = gI σ 95 := rr 95 (by omega)
    have rr96 : gI σ1 96 = gI σ 96 := rr 96 (by omega)
    have rr97 : gI σ1 97 = gI σ 97 := rr 97 (by omega)
    have rr98 : gI σ1 98 = gI σ 98 := rr 98 (by omega)
    have rr99 : gI σ1 99 = gI σ 99 := rr 99 (by omega)
    have rr100 : gI σ1 100 = gI σ 100 := rr 100 (by omega)
    have rr103 : gI σ1 103 = gI σ 103 := rr 103 (by omega)
    have rr104 : gI σ1 104 = gI σ 104 := rr 104 (by omega)
    have rr105 : gI σ1 105 = gI σ 105 := rr 105 (by omega)
    have hown : ∀ o p net, rOwn σ1 o p net = rOwn σ o p net := fun o p net => congrFun (rOwn_cg (p := p) (net := net) hq) o
    have htl : ∀ t net wk, rTl σ1 t net wk = rTl σ t net wk := fun t net wk => rTl_cg rr91
    have hrn : ∀ net k, RQ (runS σ1 net np no k) (runS σ net np no k) := fun net k => runS_cg (RQ_00 hq) hI.2.1.2.1.1.2.2 k
    have hrn1 : ∀ net k t o, rRest (runS σ1 net np no k) t o = rRest (runS σ net np no k) t o := fun net k t o => rRest_cg (hrn net k)
    have hrn2 : ∀ net k, gI (runS σ1 net np no k) 94 = gI (runS σ net np no k) 94 := fun net k => (hrn net k).2.1
    have hrn3 : ∀ net k, gI (runS σ1 net np no k) 95 = gI (runS σ net np no k) 95 := fun net k => (hrn net k).2.2.1
    have hrn4 : ∀ net k, anyO (runS σ1 net np no k) no = anyO (runS σ net np no k) no := fun net k => anyO_cg (hrn net k) no
    have hz' := hz
    try simp only [← rr91, ← rr94, ← rr95, ← rr96, ← rr100, ← rLive_cg hq, ← rRest_cg hq, ← rIn_cg hq] at hz'
    refine M_done_z hd hI1 ho hnet hz' (fun σ2 r2 => ?_)
    try simp only [rr91, rr94, rr95, rr96, rr97, rr98, rr99, rr100, rr103, rr104, rr105, rr89, rPay_cg hq, rIn_cg hq, rLive_cg hq, rRest_cg hq, rFloor_cg hq, rAt_cg hq, hown, htl, hrn1, hrn2, hrn3, hrn4]
    exact h σ2 r2
  · refine RO_p2 (by decide) hI (fun Rt h => X_done_t hd hI hB ho hnet hz h) (fun σ1 hI1 hq rr Rt h => ?_)
    have rr89 : gI σ1 89 = gI σ 89 := rr 89 (by omega)
    have rr91 : gI σ1 91 = gI σ 91 := rr 91 (by omega)
    have rr94 : gI σ1 94 = gI σ 94 := rr 94 (by omega)
    have rr95 : gI σ1 95 = gI σ 95 := rr 95 (by omega)
    have rr96 : gI σ1 96 = gI σ 96 := rr 96 (by omega)
    have rr97 : gI σ1 97 = gI σ 97 := rr 97 (by omega)
    have rr98 : gI σ1 98 = gI σ 98 := rr 98 (by omega)
    have rr99 : gI σ1 99 = gI σ 99 := rr 99 (by omega)
    have rr100 : gI σ1 100 = gI σ 100 := rr 100 (by omega)
    have rr103 : gI σ1 103 = gI σ 103 := rr 103 (by omega)
    have rr104 : gI σ1 104 = gI σ 104 := rr 104 (by omega)
    have rr105 : gI σ1 105 = gI σ 105 := rr 105 (by omega)
    have hown : ∀ o p net, rOwn σ1 o p net = rOwn σ o p net := fun o p net => congrFun (rOwn_cg (p := p) (net := net) hq) o
    have htl : ∀ t net wk, rTl σ1 t net wk = rTl σ t net wk := fun t net wk => rTl_cg rr91
    have hrn : ∀ net k, RQ (runS σ1 net np no k) (runS σ net np no k) := fun net k => runS_cg (RQ_00 hq) hI.2.1.2.1.1.2.2 k
    have hrn1 : ∀ net k t o, rRest (runS σ1 net np no k) t o = rRest (runS σ net np no k) t o := fun net k t o => rRest_cg (hrn net k)
    have hrn2 : ∀ net k, gI (runS σ1 net np no k) 94 = gI (runS σ net np no k) 94 := fun net k => (hrn net k).2.1
    have hrn3 : ∀ net k, gI (runS σ1 net np no k) 95 = gI (runS σ net np no k) 95 := fun net k => (hrn net k).2.2.1
    have hrn4 : ∀ net k, anyO (runS σ1 net np no k) no = anyO (runS σ net np no k) no := fun net k => anyO_cg (hrn net k) no
    have hz' := hz
    try simp only [← rr91, ← rr94, ← rr95, ← rr96, ← rr100, ← rLive_cg hq, ← rRest_cg hq, ← rIn_cg hq] at hz'
    refine M_done_t hd hI1 hB ho hnet hz' (fun σ2 r2 => ?_)
    try simp only [rr91, rr94, rr95, rr96, rr97, rr98, rr99, rr100, rr103, rr104, rr105, rr89, rPay_cg hq, rIn_cg hq, rLive_cg hq, rRest_cg hq, rFloor_cg hq, rAt_cg hq, hown, htl, hrn1, hrn2, hrn3, hrn4]
    exact h σ2 r2
theorem PC_ahead (hd : 14 ≤ d) (hI : InvB σ b b' nt np no K nx T (999999 * c)) (hc : c ≤ 512) : Pair d q_X9_ahead q_X10_ahead [.ref 0, .int i, .int net, .int wk, .int what] [.ref 89, .int i, .int net, .int wk, .int what] σ (fun σ2 => INV σ2 (c + 1)) := by
  have hb1 := hI.2.1.2.1.1
  have hB : (999999 * (c : Int)) ≤ 1000000000 := by omega
  by_cases hi : 0 ≤ i ∧ i < nI no
  rotate_left
  · refine RO_p2 (by decide) hI (fun Rt h => X_ahead_n hd hI hi h) (fun σ1 hI1 hq rr Rt h => ?_)
    have rr89 : gI σ1 89 = gI σ 89 := rr 89 (by omega)
    have rr91 : gI σ1 91 = gI σ 91 := rr 91 (by omega)
    have rr94 : gI σ1 94 = gI σ 94 := rr 94 (by omega)
    have rr95 : gI σ1 95 = gI σ 95 := rr 95 (by omega)
    have rr96 : gI σ1 96 = gI σ 96 := rr 96 (by omega)
    have rr97 : gI σ1 97 = gI σ 97 := rr 97 (by omega)
    have rr98 : gI σ1 98 = gI σ 98 := rr 98 (by omega)
    have rr99 : gI σ1 99 = gI σ 99 := rr 99 (by omega)
    have rr100 : gI σ1 100 = gI σ 100 := rr 100 (by omega)
    have rr103 : gI σ1 103 = gI σ 103 := rr 103 (by omega)
    have rr104 : gI σ1 104 = gI σ 104 := rr 104 (by omega)
    have rr105 : gI σ1 105 = gI σ 105 := rr 105 (by omega)
    have hown : ∀ o p net, rOwn σ1 o p net = rOwn σ o p net := fun o p net => congrFun (rOwn_cg (p := p) (net := net) hq) o
    have htl : ∀ t net wk, rTl σ1 t net wk = rTl σ t net wk := fun t net wk => rTl_cg rr91
    have hrn : ∀ net k, RQ (runS σ1 net np no k) (runS σ net np no k) := fun net k => runS_cg (RQ_00 hq) hI.2.1.2.1.1.2.2 k
    have hrn1 : ∀ net k t o, rRest (runS σ1 net np no k) t o = rRest (runS σ net np no k) t o := fun net k t o => rRest_cg (hrn net k)
    have hrn2 : ∀ net k, gI (runS σ1 net np no k) 94 = gI (runS σ net np no k) 94 := fun net k => (hrn net k).2.1
    have hrn3 : ∀ net k, gI (runS σ1 net np no k) 95 = gI (runS σ net np no k) 95 := fun net k => (hrn net k).2.2.1
    have hrn4 : ∀ net k, anyO (runS σ1 net np no k) no = anyO (runS σ net np no k) no := fun net k => anyO_cg (hrn net k) no
    refine M_ahead_n hd hI1 hi (fun σ2 r2 => ?_)
    try simp only [rr91, rr94, rr95, rr96, rr97, rr98, rr99, rr100, rr103, rr104, rr105, rr89, rPay_cg hq, rIn_cg hq, rLive_cg hq, rRest_cg hq, rFloor_cg hq, rAt_cg hq, hown, htl, hrn1, hrn2, hrn3, hrn4]
    exact h σ2 r2
  obtain ⟨o, ho, rfl⟩ := in_of (by omega) hi
  by_cases hw : 0 ≤ what ∧ what ≤ 1
  rotate_left
  · refine RO_p2 (by decide) hI (fun Rt h => X_ahead_w hd hI ho hw h) (fun σ1 hI1 hq rr Rt h => ?_)
    have rr89 : gI σ1 89 = gI σ 89 := rr 89 (by omega)
    have rr91 : gI σ1 91 = gI σ 91 := rr 91 (by omega)
    have rr94 : gI σ1 94 = gI σ 94 := rr 94 (by omega)
    have rr95 : gI σ1 95 = gI σ 95 := rr 95 (by omega)
    have rr96 : gI σ1 96 = gI σ 96 := rr 96 (by omega)
    have rr97 : gI σ1 97 = gI σ 97 := rr 97 (by omega)
    have rr98 : gI σ1 98 = gI σ 98 := rr 98 (by omega)
    have rr99 : gI σ1 99 = gI σ 99 := rr 99 (by omega)
    have rr100 : gI σ1 100 = gI σ 100 := rr 100 (by omega)
    have rr103 : gI σ1 103 = gI σ 103 := rr 103 (by omega)
    have rr104 : gI σ1 104 = gI σ 104 := rr 104 (by omega)
    have rr105 : gI σ1 105 = gI σ 105 := rr 105 (by omega)
    have hown : ∀ o p net, rOwn σ1 o p net = rOwn σ o p net := fun o p net => congrFun (rOwn_cg (p := p) (net := net) hq) o
    have htl : ∀ t net wk, rTl σ1 t net wk = rTl σ t net wk := fun t net wk => rTl_cg rr91
    have hrn : ∀ net k, RQ (runS σ1 net np no k) (runS σ net np no k) := fun net k => runS_cg (RQ_00 hq) hI.2.1.2.1.1.2.2 k
    have hrn1 : ∀ net k t o, rRest (runS σ1 net np no k) t o = rRest (runS σ net np no k) t o := fun net k t o => rRest_cg (hrn net k)
    have hrn2 : ∀ net k, gI (runS σ1 net np no k) 94 = gI (runS σ net np no k) 94 := fun net k => (hrn net k).2.1
    have hrn3 : ∀ net k, gI (runS σ1 net np no k) 95 = gI (runS σ net np no k) 95 := fun net k => (hrn net k).2.2.1
    have hrn4 : ∀ net k, anyO (runS σ1 net np no k) no = anyO (runS σ net np no k) no := fun net k => anyO_cg (hrn net k) no
    refine M_ahead_w hd hI1 ho hw (fun σ2 r2 => ?_)
    try simp only [rr91, rr94, rr95, rr96, rr97, rr98, rr99, rr100, rr103, rr104, rr105, rr89, rPay_cg hq, rIn_cg hq, rLive_cg hq, rRest_cg hq, rFloor_cg hq, rAt_cg hq, hown, htl, hrn1, hrn2, hrn3, hrn4]
    exact h σ2 r2
  by_cases hnet : 0 ≤ net ∧ net ≤ 9999
  rotate_left
  · refine RO_p2 (by decide) hI (fun Rt h => X_ahead_b hd hI ho hw hnet h) (fun σ1 hI1 hq rr Rt h => ?_)
    have rr89 : gI σ1 89 = gI σ 89 := rr 89 (by omega)
    have rr91 : gI σ1 91 = gI σ 91 := rr 91 (by omega)
    have rr94 : gI σ1 94 = gI σ 94 := rr 94 (by omega)
    have rr95 : gI σ1 95 = gI σ 95 := rr 95 (by omega)
    have rr96 : gI σ1 96 = gI σ 96 := rr 96 (by omega)
    have rr97 : gI σ1 97 = gI σ 97 := rr 97 (by omega)
    have rr98 : gI σ1 98 = gI σ 98 := rr 98 (by omega)
    have rr99 : gI σ1 99 = gI σ 99 := rr 99 (by omega)
    have rr100 : gI σ1 100 = gI σ 100 := rr 100 (by omega)
    have rr103 : gI σ1 103 = gI σ 103 := rr 103 (by omega)
    have rr104 : gI σ1 104 = gI σ 104 := rr 104 (by omega)
    have rr105 : gI σ1 105 = gI σ 105 := rr 105 (by omega)
    have hown : ∀ o p net, rOwn σ1 o p net = rOwn σ o p net := fun o p net => congrFun (rOwn_cg (p := p) (net := net) hq) o
    have htl : ∀ t net wk, rTl σ1 t net wk = rTl σ t net wk := fun t net wk => rTl_cg rr91
    have hrn : ∀ net k, RQ (runS σ1 net np no k) (runS σ net np no k) := fun net k => runS_cg (RQ_00 hq) hI.2.1.2.1.1.2.2 k
    have hrn1 : ∀ net k t o, rRest (runS σ1 net np no k) t o = rRest (runS σ net np no k) t o := fun net k t o => rRest_cg (hrn net k)
    have hrn2 : ∀ net k, gI (runS σ1 net np no k) 94 = gI (runS σ net np no k) 94 := fun net k => (hrn net k).2.1
    have hrn3 : ∀ net k, gI (runS σ1 net np no k) 95 = gI (runS σ net np no k) 95 := fun net k => (hrn net k).2.2.1
    have hrn4 : ∀ net k, anyO (runS σ1 net np no k) no = anyO (runS σ net np no k) no := fun net k => anyO_cg (hrn net k) no
    refine M_ahead_b hd hI1 ho hw hnet (fun σ2 r2 => ?_)
    try simp only [rr91, rr94, rr95, rr96, rr97, rr98, rr99, rr100, rr103, rr104, rr105, rr89, rPay_cg hq, rIn_cg hq, rLive_cg hq, rRest_cg hq, rFloor_cg hq, rAt_cg hq, hown, htl, hrn1, hrn2, hrn3, hrn4]
    exact h σ2 r2
  by_cases hk : 1 ≤ wk ∧ wk ≤ 200
  rotate_left
  · refine RO_p2 (by decide) hI (fun Rt h => X_ahead_k hd hI ho hw hnet hk h) (fun σ1 hI1 hq rr Rt h => ?_)
    have rr89 : gI σ1 89 = gI σ 89 := rr 89 (by omega)
    have rr91 : gI σ1 91 = gI σ 91 := rr 91 (by omega)
    have rr94 : gI σ1 94 = gI σ 94 := rr 94 (by omega)
    have rr95 : gI σ1 95 = gI σ 95 := rr 95 (by omega)
    have rr96 : gI σ1 96 = gI σ 96 := rr 96 (by omega)
    have rr97 : gI σ1 97 = gI σ 97 := rr 97 (by omega)
    have rr98 : gI σ1 98 = gI σ 98 := rr 98 (by omega)
    have rr99 : gI σ1 99 = gI σ 99 := rr 99 (by omega)
    have rr100 : gI σ1 100 = gI σ 100 := rr 100 (by omega)
    have rr103 : gI σ1 103 = gI σ 103 := rr 103 (by omega)
    have rr104 : gI σ1 104 = gI σ 104 := rr 104 (by omega)
    have rr105 : gI σ1 105 = gI σ 105 := rr 105 (by omega)
    have hown : ∀ o p net, rOwn σ1 o p net = rOwn σ o p net := fun o p net => congrFun (rOwn_cg (p := p) (net := net) hq) o
    have htl : ∀ t net wk, rTl σ1 t net wk = rTl σ t net wk := fun t net wk => rTl_cg rr91
    have hrn : ∀ net k, RQ (runS σ1 net np no k) (runS σ net np no k) := fun net k => runS_cg (RQ_00 hq) hI.2.1.2.1.1.2.2 k
    have hrn1 : ∀ net k t o, rRest (runS σ1 net np no k) t o = rRest (runS σ net np no k) t o := fun net k t o => rRest_cg (hrn net k)
    have hrn2 : ∀ net k, gI (runS σ1 net np no k) 94 = gI (runS σ net np no k) 94 := fun net k => (hrn net k).2.1
    have hrn3 : ∀ net k, gI (runS σ1 net np no k) 95 = gI (runS σ net np no k) 95 := fun net k => (hrn net k).2.2.1
    have hrn4 : ∀ net k, anyO (runS σ1 net np no k) no = anyO (runS σ net np no k) no := fun net k => anyO_cg (hrn net k) no
    refine M_ahead_k hd hI1 ho hw hnet hk (fun σ2 r2 => ?_)
    try simp only [rr91, rr94, rr95, rr96, rr97, rr98, rr99, rr100, rr103, rr104, rr105, rr89, rPay_cg hq, rIn_cg hq, rLive_cg hq, rRest_cg hq, rFloor_cg hq, rAt_cg hq, hown, htl, hrn1, hrn2, hrn3, hrn4]
    exact h σ2 r2
  obtain ⟨k, hk2, rfl⟩ := in_1 (n := 200) (by omega) hk
  obtain ⟨w, hw1, rfl⟩ := in_le (n := 1) (by omega) hw
  have hw_w : w = 0 ∨ w = 1 := by omega
  rcases hw_w with rfl | rfl
  · refine RO_p2 (by decide) hI (fun Rt h => X_ahead_0 hd hI hB ho hnet hk2 h) (fun σ1 hI1 hq rr Rt h => ?_)
    have rr89 : gI σ1 89 = gI σ 89 := rr 89 (by omega)
    have rr91 : gI σ1 91 = gI σ 91 := rr 91 (by omega)
    have rr94 : gI σ1 94 = gI σ 94 := rr 94 (by omega)
    have rr95 : gI σ1 95 = gI σ 95 := rr 95 (by omega)
    have rr96 : gI σ1 96 = gI σ 96 := rr 96 (by omega)
    have rr97 : gI σ1 97 = gI σ 97 := rr 97 (by omega)
    have rr98 : gI σ1 98 = gI σ 98 := rr 98 (by omega)
    have rr99 : gI σ1 99 = gI σ 99 := rr 99 (by omega)
    have rr100 : gI σ1 100 = gI σ 100 := rr 100 (by omega)
    have rr103 : gI σ1 103 = gI σ 103 := rr 103 (by omega)
    have rr104 : gI σ1 104 = gI σ 104 := rr 104 (by omega)
    have rr105 : gI σ1 105 = gI σ 105 := rr 105 (by omega)
    have hown : ∀ o p net, rOwn σ1 o p net = rOwn σ o p net := fun o p net => congrFun (rOwn_cg (p := p) (net := net) hq) o
    have htl : ∀ t net wk, rTl σ1 t net wk = rTl σ t net wk := fun t net wk => rTl_cg rr91
    have hrn : ∀ net k, RQ (runS σ1 net np no k) (runS σ net np no k) := fun net k => runS_cg (RQ_00 hq) hI.2.1.2.1.1.2.2 k
    have hrn1 : ∀ net k t o, rRest (runS σ1 net np no k) t o = rRest (runS σ net np no k) t o := fun net k t o => rRest_cg (hrn net k)
    have hrn2 : ∀ net k, gI (runS σ1 net np no k) 94 = gI (runS σ net np no k) 94 := fun net k => (hrn net k).2.1
    have hrn3 : ∀ net k, gI (runS σ1 net np no k) 95 = gI (runS σ net np no k) 95 := fun net k => (hrn net k).2.2.1
    have hrn4 : ∀ net k, anyO (runS σ1 net np no k) no = anyO (runS σ net np no k) no := fun net k => anyO_cg (hrn net k) no
    refine M_ahead_0 hd hI1 hB ho hnet hk2 (fun σ2 r2 => ?_)
    try simp only [rr91, rr94, rr95, rr96, rr97, rr98, rr99, rr100, rr103, rr104, rr105, rr89, rPay_cg hq, rIn_cg hq, rLive_cg hq, rRest_cg hq, rFloor_cg hq, rAt_cg hq, hown, htl, hrn1, hrn2, hrn3, hrn4]
    exact h σ2 r2
  · refine RO_p2 (by decide) hI (fun Rt h => X_ahead_1 hd hI hB ho hnet hk2 h) (fun σ1 hI1 hq rr Rt h => ?_)
    have rr89 : gI σ1 89 = gI σ 89 := rr 89 (by omega)
    have rr91 : gI σ1 91 = gI σ 91 := rr 91 (by omega)
    have rr94 : gI σ1 94 = gI σ 94 := rr 94 (by omega)
    have rr95 : gI σ1 95 = gI σ 95 := rr 95 (by omega)
    have rr96 : gI σ1 96 = gI σ 96 := rr 96 (by omega)
    have rr97 : gI σ1 97 = gI σ 97 := rr 97 (by omega)
    have rr98 : gI σ1 98 = gI σ 98 := rr 98 (by omega)
    have rr99 : gI σ1 99 = gI σ 99 := rr 99 (by omega)
    have rr100 : gI σ1 100 = gI σ 100 := rr 100 (by omega)
    have rr103 : gI σ1 103 = gI σ 103 := rr 103 (by omega)
    have rr104 : gI σ1 104 = gI σ 104 := rr 104 (by omega)
    have rr105 : gI σ1 105 = gI σ 105 := rr 105 (by omega)
    have hown : ∀ o p net, rOwn σ1 o p net = rOwn σ o p net := fun o p net => congrFun (rOwn_cg (p := p) (net := net) hq) o
    have htl : ∀ t net wk, rTl σ1 t net wk = rTl σ t net wk := fun t net wk => rTl_cg rr91
    have hrn : ∀ net k, RQ (runS σ1 net np no k) (runS σ net np no k) := fun net k => runS_cg (RQ_00 hq) hI.2.1.2.1.1.2.2 k
    have hrn1 : ∀ net k t o, rRest (runS σ1 net np no k) t o = rRest (runS σ net np no k) t o := fun net k t o => rRest_cg (hrn net k)
    have hrn2 : ∀ net k, gI (runS σ1 net np no k) 94 = gI (runS σ net np no k) 94 := fun net k => (hrn net k).2.1
    have hrn3 : ∀ net k, gI (runS σ1 net np no k) 95 = gI (runS σ net np no k) 95 := fun net k => (hrn net k).2.2.1
    have hrn4 : ∀ net k, anyO (runS σ1 net np no k) no = anyO (runS σ net np no k) no := fun net k => anyO_cg (hrn net k) no
    refine M_ahead_1 hd hI1 hB ho hnet hk2 (fun σ2 r2 => ?_)
    try simp only [rr91, rr94, rr95, rr96, rr97, rr98, rr99, rr100, rr103, rr104, rr105, rr89, rPay_cg hq, rIn_cg hq, rLive_cg hq, rRest_cg hq, rFloor_cg hq, rAt_cg hq, hown, htl, hrn1, hrn2, hrn3, hrn4]
    exact h σ2 r2
theorem PC_steady (hd : 14 ≤ d) (hI : InvB σ b b' nt np no K nx T (999999 * c)) (hc : c ≤ 512) : Pair d q_X9_steady q_X10_steady [.ref 0, .int wk] [.ref 89, .int wk] σ (fun σ2 => INV σ2 (c + 1)) := by
  have hb1 := hI.2.1.2.1.1
  have hB : (999999 * (c : Int)) ≤ 1000000000 := by omega
  by_cases hp : 0 < np
  rotate_left
  · have hp0 : np = 0 := by omega
    · refine RO_p2 (by decide) hI (fun Rt h => X_steady_n hd hI hp0 h) (fun σ1 hI1 hq rr Rt h => ?_)
      have rr89 : gI σ1 89 = gI σ 89 := rr 89 (by omega)
      have rr91 : gI σ1 91 = gI σ 91 := rr 91 (by omega)
      have rr94 : gI σ1 94 = gI σ 94 := rr 94 (by omega)
      have rr95 : gI σ1 95 = gI σ 95 := rr 95 (by omega)
      have rr96 : gI σ1 96 = gI σ 96 := rr 96 (by omega)
      have rr97 : gI σ1 97 = gI σ 97 := rr 97 (by omega)
      have rr98 : gI σ1 98 = gI σ 98 := rr 98 (by omega)
      have rr99 : gI σ1 99 = gI σ 99 := rr 99 (by omega)
      have rr100 : gI σ1 100 = gI σ 100 := rr 100 (by omega)
      have rr103 : gI σ1 103 = gI σ 103 := rr 103 (by omega)
      have rr104 : gI σ1 104 = gI σ 104 := rr 104 (by omega)
      have rr105 : gI σ1 105 = gI σ 105 := rr 105 (by omega)
      have hown : ∀ o p net, rOwn σ1 o p net = rOwn σ o p net := fun o p net => congrFun (rOwn_cg (p := p) (net := net) hq) o
      have htl : ∀ t net wk, rTl σ1 t net wk = rTl σ t net wk := fun t net wk => rTl_cg rr91
      have hrn : ∀ net k, RQ (runS σ1 net np no k) (runS σ net np no k) := fun net k => runS_cg (RQ_00 hq) hI.2.1.2.1.1.2.2 k
      have hrn1 : ∀ net k t o, rRest (runS σ1 net np no k) t o = rRest (runS σ net np no k) t o := fun net k t o => rRest_cg (hrn net k)
      have hrn2 : ∀ net k, gI (runS σ1 net np no k) 94 = gI (runS σ net np no k) 94 := fun net k => (hrn net k).2.1
      have hrn3 : ∀ net k, gI (runS σ1 net np no k) 95 = gI (runS σ net np no k) 95 := fun net k => (hrn net k).2.2.1
      have hrn4 : ∀ net k, anyO (runS σ1 net np no k) no = anyO (runS σ net np no k) no := fun net k => anyO_cg (hrn net k) no
      refine M_steady_n hd hI1 hp0 (fun σ2 r2 => ?_)
      try simp only [rr91, rr94, rr95, rr96, rr97, rr98, rr99, rr100, rr103, rr104, rr105, rr89, rPay_cg hq, rIn_cg hq, rLive_cg hq, rRest_cg hq, rFloor_cg hq, rAt_cg hq, hown, htl, hrn1, hrn2, hrn3, hrn4]
      exact h σ2 r2
  by_cases hk : 1 ≤ wk ∧ wk ≤ 20
  rotate_left
  · refine RO_p2 (by decide) hI (fun Rt h => X_steady_b hd hI hp hk h) (fun σ1 hI1 hq rr Rt h => ?_)
    have rr89 : gI σ1 89 = gI σ 89 := rr 89 (by omega)
    have rr91 : gI σ1 91 = gI σ 91 := rr 91 (by omega)
    have rr94 : gI σ1 94 = gI σ 94 := rr 94 (by omega)
    have rr95 : gI σ1 95 = gI σ 95 := rr 95 (by omega)
    have rr96 : gI σ1 96 = gI σ 96 := rr 96 (by omega)
    have rr97 : gI σ1 97 = gI σ 97 := rr 97 (by omega)
    have rr98 : gI σ1 98 = gI σ 98 := rr 98 (by omega)
    have rr99 : gI σ1 99 = gI σ 99 := rr 99 (by omega)
    have rr100 : gI σ1 100 = gI σ 100 := rr 100 (by omega)
    have rr103 : gI σ1 103 = gI σ 103 := rr 103 (by omega)
    have rr104 : gI σ1 104 = gI σ 104 := rr 104 (by omega)
    have rr105 : gI σ1 105 = gI σ 105 := rr 105 (by omega)
    have hown : ∀ o p net, rOwn σ1 o p net = rOwn σ o p net := fun o p net => congrFun (rOwn_cg (p := p) (net := net) hq) o
    have htl : ∀ t net wk, rTl σ1 t net wk = rTl σ t net wk := fun t net wk => rTl_cg rr91
    have hrn : ∀ net k, RQ (runS σ1 net np no k) (runS σ net np no k) := fun net k => runS_cg (RQ_00 hq) hI.2.1.2.1.1.2.2 k
    have hrn1 : ∀ net k t o, rRest (runS σ1 net np no k) t o = rRest (runS σ net np no k) t o := fun net k t o => rRest_cg (hrn net k)
    have hrn2 : ∀ net k, gI (runS σ1 net np no k) 94 = gI (runS σ net np no k) 94 := fun net k => (hrn net k).2.1
    have hrn3 : ∀ net k, gI (runS σ1 net np no k) 95 = gI (runS σ net np no k) 95 := fun net k => (hrn net k).2.2.1
    have hrn4 : ∀ net k, anyO (runS σ1 net np no k) no = anyO (runS σ net np no k) no := fun net k => anyO_cg (hrn net k) no
    refine M_steady_b hd hI1 hp hk (fun σ2 r2 => ?_)
    try simp only [rr91, rr94, rr95, rr96, rr97, rr98, rr99, rr100, rr103, rr104, rr105, rr89, rPay_cg hq, rIn_cg hq, rLive_cg hq, rRest_cg hq, rFloor_cg hq, rAt_cg hq, hown, htl, hrn1, hrn2, hrn3, hrn4]
    exact h σ2 r2
  obtain ⟨k, hk2, rfl⟩ := in_1 (n := 20) (by omega) hk
  · refine RO_p2 (by decide) hI (fun Rt h => X_steady_t hd hI hB hp hk2 h) (fun σ1 hI1 hq rr Rt h => ?_)
    have rr89 : gI σ1 89 = gI σ 89 := rr 89 (by omega)
    have rr91 : gI σ1 91 = gI σ 91 := rr 91 (by omega)
    have rr94 : gI σ1 94 = gI σ 94 := rr 94 (by omega)
    have rr95 : gI σ1 95 = gI σ 95 := rr 95 (by omega)
    have rr96 : gI σ1 96 = gI σ 96 := rr 96 (by omega)
    have rr97 : gI σ1 97 = gI σ 97 := rr 97 (by omega)
    have rr98 : gI σ1 98 = gI σ 98 := rr 98 (by omega)
    have rr99 : gI σ1 99 = gI σ 99 := rr 99 (by omega)
    have rr100 : gI σ1 100 = gI σ 100 := rr 100 (by omega)
    have rr103 : gI σ1 103 = gI σ 103 := rr 103 (by omega)
    have rr104 : gI σ1 104 = gI σ 104 := rr 104 (by omega)
    have rr105 : gI σ1 105 = gI σ 105 := rr 105 (by omega)
    have hown : ∀ o p net, rOwn σ1 o p net = rOwn σ o p net := fun o p net => congrFun (rOwn_cg (p := p) (net := net) hq) o
    have htl : ∀ t net wk, rTl σ1 t net wk = rTl σ t net wk := fun t net wk => rTl_cg rr91
    have hrn : ∀ net k, RQ (runS σ1 net np no k) (runS σ net np no k) := fun net k => runS_cg (RQ_00 hq) hI.2.1.2.1.1.2.2 k
    have hrn1 : ∀ net k t o, rRest (runS σ1 net np no k) t o = rRest (runS σ net np no k) t o := fun net k t o => rRest_cg (hrn net k)
    have hrn2 : ∀ net k, gI (runS σ1 net np no k) 94 = gI (runS σ net np no k) 94 := fun net k => (hrn net k).2.1
    have hrn3 : ∀ net k, gI (runS σ1 net np no k) 95 = gI (runS σ net np no k) 95 := fun net k => (hrn net k).2.2.1
    have hrn4 : ∀ net k, anyO (runS σ1 net np no k) no = anyO (runS σ net np no k) no := fun net k => anyO_cg (hrn net k) no
    refine M_steady_t hd hI1 hB hp hk2 (fun σ2 r2 => ?_)
    try simp only [rr91, rr94, rr95, rr96, rr97, rr98, rr99, rr100, rr103, rr104, rr105, rr89, rPay_cg hq, rIn_cg hq, rLive_cg hq, rRest_cg hq, rFloor_cg hq, rAt_cg hq, hown, htl, hrn1, hrn2, hrn3, hrn4]
    exact h σ2 r2
theorem PC_past (hd : 14 ≤ d) (hI : InvB σ b b' nt np no K nx T (999999 * c)) (hc : c ≤ 512) : Pair d q_X9_past q_X10_past [.ref 0, .int i, .int what] [.ref 89, .int i, .int what] σ (fun σ2 => INV σ2 (c + 1)) := by
  have hb1 := hI.2.1.2.1.1
  have hB : (999999 * (c : Int)) ≤ 1000000000 := by omega
  have hK := hI.2.2.2.2.2.2.2.1.1.2.2
  by_cases hi : 0 ≤ i ∧ i < nI K
  rotate_left
  · refine RO_p2 (by decide) hI (fun Rt h => X_past_n hd hI hi h) (fun σ1 hI1 hq rr Rt h => ?_)
    have rr89 : gI σ1 89 = gI σ 89 := rr 89 (by omega)
    have rr91 : gI σ1 91 = gI σ 91 := rr 91 (by omega)
    have rr94 : gI σ1 94 = gI σ 94 := rr 94 (by omega)
    have rr95 : gI σ1 95 = gI σ 95 := rr 95 (by omega)
    have rr96 : gI σ1 96 = gI σ 96 := rr 96 (by omega)
    have rr97 : gI σ1 97 = gI σ 97 := rr 97 (by omega)
    have rr98 : gI σ1 98 = gI σ 98 := rr 98 (by omega)
    have rr99 : gI σ1 99 = gI σ 99 := rr 99 (by omega)
    have rr100 : gI σ1 100 = gI σ 100 := rr 100 (by omega)
    have rr103 : gI σ1 103 = gI σ 103 := rr 103 (by omega)
    have rr104 : gI σ1 104 = gI σ 104 := rr 104 (by omega)
    have rr105 : gI σ1 105 = gI σ 105 := rr 105 (by omega)
    have hown : ∀ o p net, rOwn σ1 o p net = rOwn σ o p net := fun o p net => congrFun (rOwn_cg (p := p) (net := net) hq) o
    have htl : ∀ t net wk, rTl σ1 t net wk = rTl σ t net wk := fun t net wk => rTl_cg rr91
    have hrn : ∀ net k, RQ (runS σ1 net np no k) (runS σ net np no k) := fun net k => runS_cg (RQ_00 hq) hI.2.1.2.1.1.2.2 k
    have hrn1 : ∀ net k t o, rRest (runS σ1 net np no k) t o = rRest (runS σ net np no k) t o := fun net k t o => rRest_cg (hrn net k)
    have hrn2 : ∀ net k, gI (runS σ1 net np no k) 94 = gI (runS σ net np no k) 94 := fun net k => (hrn net k).2.1
    have hrn3 : ∀ net k, gI (runS σ1 net np no k) 95 = gI (runS σ net np no k) 95 := fun net k => (hrn net k).2.2.1
    have hrn4 : ∀ net k, anyO (runS σ1 net np no k) no = anyO (runS σ net np no k) no := fun net k => anyO_cg (hrn net k) no
    refine M_past_n hd hI1 hi (fun σ2 r2 => ?_)
    try simp only [rr91, rr94, rr95, rr96, rr97, rr98, rr99, rr100, rr103, rr104, rr105, rr89, rPay_cg hq, rIn_cg hq, rLive_cg hq, rRest_cg hq, rFloor_cg hq, rAt_cg hq, hown, htl, hrn1, hrn2, hrn3, hrn4]
    exact h σ2 r2
  obtain ⟨q, hq', rfl⟩ := in_of (by omega) hi
  by_cases hw : 0 ≤ what ∧ what ≤ 4
  rotate_left
  · refine RO_p2 (by decide) hI (fun Rt h => X_past_w hd hI hq' hw h) (fun σ1 hI1 hq rr Rt h => ?_)
    have rr89 : gI σ1 89 = gI σ 89 := rr 89 (by omega)
    have rr91 : gI σ1 91 = gI σ 91 := rr 91 (by omega)
    have rr94 : gI σ1 94 = gI σ 94 := rr 94 (by omega)
    have rr95 : gI σ1 95 = gI σ 95 := rr 95 (by omega)
    have rr96 : gI σ1 96 = gI σ 96 := rr 96 (by omega)
    have rr97 : gI σ1 97 = gI σ 97 := rr 97 (by omega)
    have rr98 : gI σ1 98 = gI σ 98 := rr 98 (by omega)
    have rr99 : gI σ1 99 = gI σ 99 := rr 99 (by omega)
    have rr100 : gI σ1 100 = gI σ 100 := rr 100 (by omega)
    have rr103 : gI σ1 103 = gI σ 103 := rr 103 (by omega)
    have rr104 : gI σ1 104 = gI σ 104 := rr 104 (by omega)
    have rr105 : gI σ1 105 = gI σ 105 := rr 105 (by omega)
    have hown : ∀ o p net, rOwn σ1 o p net = rOwn σ o p net := fun o p net => congrFun (rOwn_cg (p := p) (net := net) hq) o
    have htl : ∀ t net wk, rTl σ1 t net wk = rTl σ t net wk := fun t net wk => rTl_cg rr91
    have hrn : ∀ net k, RQ (runS σ1 net np no k) (runS σ net np no k) := fun net k => runS_cg (RQ_00 hq) hI.2.1.2.1.1.2.2 k
    have hrn1 : ∀ net k t o, rRest (runS σ1 net np no k) t o = rRest (runS σ net np no k) t o := fun net k t o => rRest_cg (hrn net k)
    have hrn2 : ∀ net k, gI (runS σ1 net np no k) 94 = gI (runS σ net np no k) 94 := fun net k => (hrn net k).2.1
    have hrn3 : ∀ net k, gI (runS σ1 net np no k) 95 = gI (runS σ net np no k) 95 := fun net k => (hrn net k).2.2.1
    have hrn4 : ∀ net k, anyO (runS σ1 net np no k) no = anyO (runS σ net np no k) no := fun net k => anyO_cg (hrn net k) no
    refine M_past_w hd hI1 hq' hw (fun σ2 r2 => ?_)
    try simp only [rr91, rr94, rr95, rr96, rr97, rr98, rr99, rr100, rr103, rr104, rr105, rr89, rPay_cg hq, rIn_cg hq, rLive_cg hq, rRest_cg hq, rFloor_cg hq, rAt_cg hq, hown, htl, hrn1, hrn2, hrn3, hrn4]
    exact h σ2 r2
  obtain ⟨w, hw1, rfl⟩ := in_le (n := 4) (by omega) hw
  have hw5 : w < 5 := by omega
  · refine RO_p2 (by decide) hI (fun Rt h => X_past_t hd hI hq' hw5 h) (fun σ1 hI1 hq rr Rt h => ?_)
    have rr89 : gI σ1 89 = gI σ 89 := rr 89 (by omega)
    have rr91 : gI σ1 91 = gI σ 91 := rr 91 (by omega)
    have rr94 : gI σ1 94 = gI σ 94 := rr 94 (by omega)
    have rr95 : gI σ1 95 = gI σ 95 := rr 95 (by omega)
    have rr96 : gI σ1 96 = gI σ 96 := rr 96 (by omega)
    have rr97 : gI σ1 97 = gI σ 97 := rr 97 (by omega)
    have rr98 : gI σ1 98 = gI σ 98 := rr 98 (by omega)
    have rr99 : gI σ1 99 = gI σ 99 := rr 99 (by omega)
    have rr100 : gI σ1 100 = gI σ 100 := rr 100 (by omega)
    have rr103 : gI σ1 103 = gI σ 103 := rr 103 (by omega)
    have rr104 : gI σ1 104 = gI σ 104 := rr 104 (by omega)
    have rr105 : gI σ1 105 = gI σ 105 := rr 105 (by omega)
    have hown : ∀ o p net, rOwn σ1 o p net = rOwn σ o p net := fun o p net => congrFun (rOwn_cg (p := p) (net := net) hq) o
    have htl : ∀ t net wk, rTl σ1 t net wk = rTl σ t net wk := fun t net wk => rTl_cg rr91
    have hrn : ∀ net k, RQ (runS σ1 net np no k) (runS σ net np no k) := fun net k => runS_cg (RQ_00 hq) hI.2.1.2.1.1.2.2 k
    have hrn1 : ∀ net k t o, rRest (runS σ1 net np no k) t o = rRest (runS σ net np no k) t o := fun net k t o => rRest_cg (hrn net k)
    have hrn2 : ∀ net k, gI (runS σ1 net np no k) 94 = gI (runS σ net np no k) 94 := fun net k => (hrn net k).2.1
    have hrn3 : ∀ net k, gI (runS σ1 net np no k) 95 = gI (runS σ net np no k) 95 := fun net k => (hrn net k).2.2.1
    have hrn4 : ∀ net k, anyO (runS σ1 net np no k) no = anyO (runS σ net np no k) no := fun net k => anyO_cg (hrn net k) no
    refine M_past_t hd hI1 hq' hw5 (fun σ2 r2 => ?_)
    try simp only [rr91, rr94, rr95, rr96, rr97, rr98, rr99, rr100, rr103, rr104, rr105, rr89, rPay_cg hq, rIn_cg hq, rLive_cg hq, rRest_cg hq, rFloor_cg hq, rAt_cg hq, hown, htl, hrn1, hrn2, hrn3, hrn4]
    exact h σ2 r2
theorem PC_pastOf (hd : 14 ≤ d) (hI : InvB σ b b' nt np no K nx T (999999 * c)) (hc : c ≤ 512) : Pair d q_X9_pastOf q_X10_pastOf [.ref 0, .int i, .int j, .int what] [.ref 89, .int i, .int j, .int what] σ (fun σ2 => INV σ2 (c + 1)) := by
  have hb1 := hI.2.1.2.1.1
  have hB : (999999 * (c : Int)) ≤ 1000000000 := by omega
  have hK := hI.2.2.2.2.2.2.2.1.1.2.2
  by_cases hi : 0 ≤ i ∧ i < nI K
  rotate_left
  · refine RO_p2 (by decide) hI (fun Rt h => X_pastOf_n hd hI hi h) (fun σ1 hI1 hq rr Rt h => ?_)
    have rr89 : gI σ1 89 = gI σ 89 := rr 89 (by omega)
    have rr91 : gI σ1 91 = gI σ 91 := rr 91 (by omega)
    have rr94 : gI σ1 94 = gI σ 94 := rr 94 (by omega)
    have rr95 : gI σ1 95 = gI σ 95 := rr 95 (by omega)
    have rr96 : gI σ1 96 = gI σ 96 := rr 96 (by omega)
    have rr97 : gI σ1 97 = gI σ 97 := rr 97 (by omega)
    have rr98 : gI σ1 98 = gI σ 98 := rr 98 (by omega)
    have rr99 : gI σ1 99 = gI σ 99 := rr 99 (by omega)
    have rr100 : gI σ1 100 = gI σ 100 := rr 100 (by omega)
    have rr103 : gI σ1 103 = gI σ 103 := rr 103 (by omega)
    have rr104 : gI σ1 104 = gI σ 104 := rr 104 (by omega)
    have rr105 : gI σ1 105 = gI σ 105 := rr 105 (by omega)
    have hown : ∀ o p net, rOwn σ1 o p net = rOwn σ o p net := fun o p net => congrFun (rOwn_cg (p := p) (net := net) hq) o
    have htl : ∀ t net wk, rTl σ1 t net wk = rTl σ t net wk := fun t net wk => rTl_cg rr91
    have hrn : ∀ net k, RQ (runS σ1 net np no k) (runS σ net np no k) := fun net k => runS_cg (RQ_00 hq) hI.2.1.2.1.1.2.2 k
    have hrn1 : ∀ net k t o, rRest (runS σ1 net np no k) t o = rRest (runS σ net np no k) t o := fun net k t o => rRest_cg (hrn net k)
    have hrn2 : ∀ net k, gI (runS σ1 net np no k) 94 = gI (runS σ net np no k) 94 := fun net k => (hrn net k).2.1
    have hrn3 : ∀ net k, gI (runS σ1 net np no k) 95 = gI (runS σ net np no k) 95 := fun net k => (hrn net k).2.2.1
    have hrn4 : ∀ net k, anyO (runS σ1 net np no k) no = anyO (runS σ net np no k) no := fun net k => anyO_cg (hrn net k) no
    refine M_pastOf_n hd hI1 hi (fun σ2 r2 => ?_)
    try simp only [rr91, rr94, rr95, rr96, rr97, rr98, rr99, rr100, rr103, rr104, rr105, rr89, rPay_cg hq, rIn_cg hq, rLive_cg hq, rRest_cg hq, rFloor_cg hq, rAt_cg hq, hown, htl, hrn1, hrn2, hrn3, hrn4]
    exact h σ2 r2
  obtain ⟨q, hq', rfl⟩ := in_of (by omega) hi
  by_cases hj : 0 ≤ j ∧ j < nI no
  rotate_left
  · refine RO_p2 (by decide) hI (fun Rt h => X_pastOf_o hd hI hq' hj h) (fun σ1 hI1 hq rr Rt h => ?_)
    have rr89 : gI σ1 89 = gI σ 89 := rr 89 (by omega)
    have rr91 : gI σ1 91 = gI σ 91 := rr 91 (by omega)
    have rr94 : gI σ1 94 = gI σ 94 := rr 94 (by omega)
    have rr95 : gI σ1 95 = gI σ 95 := rr 95 (by omega)
    have rr96 : gI σ1 96 = gI σ 96 := rr 96 (by omega)
    have rr97 : gI σ1 97 = gI σ 97 := rr 97 (by omega)
    have rr98 : gI σ1 98 = gI σ 98 := rr 98 (by omega)
    have rr99 : gI σ1 99 = gI σ 99 := rr 99 (by omega)
    have rr100 : gI σ1 100 = gI σ 100 := rr 100 (by omega)
    have rr103 : gI σ1 103 = gI σ 103 := rr 103 (by omega)
    have rr104 : gI σ1 104 = gI σ 104 := rr 104 (by omega)
    have rr105 : gI σ1 105 = gI σ 105 := rr 105 (by omega)
    have hown : ∀ o p net, rOwn σ1 o p net = rOwn σ o p net := fun o p net => congrFun (rOwn_cg (p := p) (net := net) hq) o
    have htl : ∀ t net wk, rTl σ1 t net wk = rTl σ t net wk := fun t net wk => rTl_cg rr91
    have hrn : ∀ net k, RQ (runS σ1 net np no k) (runS σ net np no k) := fun net k => runS_cg (RQ_00 hq) hI.2.1.2.1.1.2.2 k
    have hrn1 : ∀ net k t o, rRest (runS σ1 net np no k) t o = rRest (runS σ net np no k) t o := fun net k t o => rRest_cg (hrn net k)
    have hrn2 : ∀ net k, gI (runS σ1 net np no k) 94 = gI (runS σ net np no k) 94 := fun net k => (hrn net k).2.1
    have hrn3 : ∀ net k, gI (runS σ1 net np no k) 95 = gI (runS σ net np no k) 95 := fun net k => (hrn net k).2.2.1
    have hrn4 : ∀ net k, anyO (runS σ1 net np no k) no = anyO (runS σ net np no k) no := fun net k => anyO_cg (hrn net k) no
    refine M_pastOf_o hd hI1 hq' hj (fun σ2 r2 => ?_)
    try simp only [rr91, rr94, rr95, rr96, rr97, rr98, rr99, rr100, rr103, rr104, rr105, rr89, rPay_cg hq, rIn_cg hq, rLive_cg hq, rRest_cg hq, rFloor_cg hq, rAt_cg hq, hown, htl, hrn1, hrn2, hrn3, hrn4]
    exact h σ2 r2
  obtain ⟨o, ho, rfl⟩ := in_of (by omega) hj
  by_cases hw : 0 ≤ what ∧ what ≤ 1
  rotate_left
  · refine RO_p2 (by decide) hI (fun Rt h => X_pastOf_w hd hI hq' ho hw h) (fun σ1 hI1 hq rr Rt h => ?_)
    have rr89 : gI σ1 89 = gI σ 89 := rr 89 (by omega)
    have rr91 : gI σ1 91 = gI σ 91 := rr 91 (by omega)
    have rr94 : gI σ1 94 = gI σ 94 := rr 94 (by omega)
    have rr95 : gI σ1 95 = gI σ 95 := rr 95 (by omega)
    have rr96 : gI σ1 96 = gI σ 96 := rr 96 (by omega)
    have rr97 : gI σ1 97 = gI σ 97 := rr 97 (by omega)
    have rr98 : gI σ1 98 = gI σ 98 := rr 98 (by omega)
    have rr99 : gI σ1 99 = gI σ 99 := rr 99 (by omega)
    have rr100 : gI σ1 100 = gI σ 100 := rr 100 (by omega)
    have rr103 : gI σ1 103 = gI σ 103 := rr 103 (by omega)
    have rr104 : gI σ1 104 = gI σ 104 := rr 104 (by omega)
    have rr105 : gI σ1 105 = gI σ 105 := rr 105 (by omega)
    have hown : ∀ o p net, rOwn σ1 o p net = rOwn σ o p net := fun o p net => congrFun (rOwn_cg (p := p) (net := net) hq) o
    have htl : ∀ t net wk, rTl σ1 t net wk = rTl σ t net wk := fun t net wk => rTl_cg rr91
    have hrn : ∀ net k, RQ (runS σ1 net np no k) (runS σ net np no k) := fun net k => runS_cg (RQ_00 hq) hI.2.1.2.1.1.2.2 k
    have hrn1 : ∀ net k t o, rRest (runS σ1 net np no k) t o = rRest (runS σ net np no k) t o := fun net k t o => rRest_cg (hrn net k)
    have hrn2 : ∀ net k, gI (runS σ1 net np no k) 94 = gI (runS σ net np no k) 94 := fun net k => (hrn net k).2.1
    have hrn3 : ∀ net k, gI (runS σ1 net np no k) 95 = gI (runS σ net np no k) 95 := fun net k => (hrn net k).2.2.1
    have hrn4 : ∀ net k, anyO (runS σ1 net np no k) no = anyO (runS σ net np no k) no := fun net k => anyO_cg (hrn net k) no
    refine M_pastOf_w hd hI1 hq' ho hw (fun σ2 r2 => ?_)
    try simp only [rr91, rr94, rr95, rr96, rr97, rr98, rr99, rr100, rr103, rr104, rr105, rr89, rPay_cg hq, rIn_cg hq, rLive_cg hq, rRest_cg hq, rFloor_cg hq, rAt_cg hq, hown, htl, hrn1, hrn2, hrn3, hrn4]
    exact h σ2 r2
  obtain ⟨w, hw1, rfl⟩ := in_le (n := 1) (by omega) hw
  have hw_w : w = 0 ∨ w = 1 := by omega
  rcases hw_w with rfl | rfl
  · refine RO_p2 (by decide) hI (fun Rt h => X_pastOf_0 hd hI hq' ho h) (fun σ1 hI1 hq rr Rt h => ?_)
    have rr89 : gI σ1 89 = gI σ 89 := rr 89 (by omega)
    have rr91 : gI σ1 91 = gI σ 91 := rr 91 (by omega)
    have rr94 : gI σ1 94 = gI σ 94 := rr 94 (by omega)
    have rr95 : gI σ1 95 = gI σ 95 := rr 95 (by omega)
    have rr96 : gI σ1 96 = gI σ 96 := rr 96 (by omega)
    have rr97 : gI σ1 97 = gI σ 97 := rr 97 (by omega)
    have rr98 : gI σ1 98 = gI σ 98 := rr 98 (by omega)
    have rr99 : gI σ1 99 = gI σ 99 := rr 99 (by omega)
    have rr100 : gI σ1 100 = gI σ 100 := rr 100 (by omega)
    have rr103 : gI σ1 103 = gI σ 103 := rr 103 (by omega)
    have rr104 : gI σ1 104 = gI σ 104 := rr 104 (by omega)
    have rr105 : gI σ1 105 = gI σ 105 := rr 105 (by omega)
    have hown : ∀ o p net, rOwn σ1 o p net = rOwn σ o p net := fun o p net => congrFun (rOwn_cg (p := p) (net := net) hq) o
    have htl : ∀ t net wk, rTl σ1 t net wk = rTl σ t net wk := fun t net wk => rTl_cg rr91
    have hrn : ∀ net k, RQ (runS σ1 net np no k) (runS σ net np no k) := fun net k => runS_cg (RQ_00 hq) hI.2.1.2.1.1.2.2 k
    have hrn1 : ∀ net k t o, rRest (runS σ1 net np no k) t o = rRest (runS σ net np no k) t o := fun net k t o => rRest_cg (hrn net k)
    have hrn2 : ∀ net k, gI (runS σ1 net np no k) 94 = gI (runS σ net np no k) 94 := fun net k => (hrn net k).2.1
    have hrn3 : ∀ net k, gI (runS σ1 net np no k) 95 = gI (runS σ net np no k) 95 := fun net k => (hrn net k).2.2.1
    have hrn4 : ∀ net k, anyO (runS σ1 net np no k) no = anyO (runS σ net np no k) no := fun net k => anyO_cg (hrn net k) no
    refine M_pastOf_0 hd hI1 hq' ho (fun σ2 r2 => ?_)
    try simp only [rr91, rr94, rr95, rr96, rr97, rr98, rr99, rr100, rr103, rr104, rr105, rr89, rPay_cg hq, rIn_cg hq, rLive_cg hq, rRest_cg hq, rFloor_cg hq, rAt_cg hq, hown, htl, hrn1, hrn2, hrn3, hrn4]
    exact h σ2 r2
  · refine RO_p2 (by decide) hI (fun Rt h => X_pastOf_1 hd hI hq' ho h) (fun σ1 hI1 hq rr Rt h => ?_)
    have rr89 : gI σ1 89 = gI σ 89 := rr 89 (by omega)
    have rr91 : gI σ1 91 = gI σ 91 := rr 91 (by omega)
    have rr94 : gI σ1 94 = gI σ 94 := rr 94 (by omega)
    have rr95 : gI σ1 95 = gI σ 95 := rr 95 (by omega)
    have rr96 : gI σ1 96 = gI σ 96 := rr 96 (by omega)
    have rr97 : gI σ1 97 = gI σ 97 := rr 97 (by omega)
    have rr98 : gI σ1 98 = gI σ 98 := rr 98 (by omega)
    have rr99 : gI σ1 99 = gI σ 99 := rr 99 (by omega)
    have rr100 : gI σ1 100 = gI σ 100 := rr 100 (by omega)
    have rr103 : gI σ1 103 = gI σ 103 := rr 103 (by omega)
    have rr104 : gI σ1 104 = gI σ 104 := rr 104 (by omega)
    have rr105 : gI σ1 105 = gI σ 105 := rr 105 (by omega)
    have hown : ∀ o p net, rOwn σ1 o p net = rOwn σ o p net := fun o p net => congrFun (rOwn_cg (p := p) (net := net) hq) o
    have htl : ∀ t net wk, rTl σ1 t net wk = rTl σ t net wk := fun t net wk => rTl_cg rr91
    have hrn : ∀ net k, RQ (runS σ1 net np no k) (runS σ net np no k) := fun net k => runS_cg (RQ_00 hq) hI.2.1.2.1.1.2.2 k
    have hrn1 : ∀ net k t o, rRest (runS σ1 net np no k) t o = rRest (runS σ net np no k) t o := fun net k t o => rRest_cg (hrn net k)
    have hrn2 : ∀ net k, gI (runS σ1 net np no k) 94 = gI (runS σ net np no k) 94 := fun net k => (hrn net k).2.1
    have hrn3 : ∀ net k, gI (runS σ1 net np no k) 95 = gI (runS σ net np no k) 95 := fun net k => (hrn net k).2.2.1
    have hrn4 : ∀ net k, anyO (runS σ1 net np no k) no = anyO (runS σ net np no k) no := fun net k => anyO_cg (hrn net k) no
    refine M_pastOf_1 hd hI1 hq' ho (fun σ2 r2 => ?_)
    try simp only [rr91, rr94, rr95, rr96, rr97, rr98, rr99, rr100, rr103, rr104, rr105, rr89, rPay_cg hq, rIn_cg hq, rLive_cg hq, rRest_cg hq, rFloor_cg hq, rAt_cg hq, hown, htl, hrn1, hrn2, hrn3, hrn4]
    exact h σ2 r2
theorem PC_weeks (hd : 14 ≤ d) (hI : InvB σ b b' nt np no K nx T (999999 * c)) (hc : c ≤ 512) : Pair d q_X9_weeks q_X10_weeks [.ref 0, .int wk] [.ref 89, .int wk] σ (fun σ2 => INV σ2 (c + 1)) := by
  have hb1 := hI.2.1.2.1.1
  have hB : (999999 * (c : Int)) ≤ 1000000000 := by omega
  by_cases hp : 0 < np
  rotate_left
  · have hp0 : np = 0 := by omega
    · refine RO_p2 (by decide) hI (fun Rt h => X_weeks_n hd hI hp0 h) (fun σ1 hI1 hq rr Rt h => ?_)
      have rr89 : gI σ1 89 = gI σ 89 := rr 89 (by omega)
      have rr91 : gI σ1 91 = gI σ 91 := rr 91 (by omega)
      have rr94 : gI σ1 94 = gI σ 94 := rr 94 (by omega)
      have rr95 : gI σ1 95 = gI σ 95 := rr 95 (by omega)
      have rr96 : gI σ1 96 = gI σ 96 := rr 96 (by omega)
      have rr97 : gI σ1 97 = gI σ 97 := rr 97 (by omega)
      have rr98 : gI σ1 98 = gI σ 98 := rr 98 (by omega)
      have rr99 : gI σ1 99 = gI σ 99 := rr 99 (by omega)
      have rr100 : gI σ1 100 = gI σ 100 := rr 100 (by omega)
      have rr103 : gI σ1 103 = gI σ 103 := rr 103 (by omega)
      have rr104 : gI σ1 104 = gI σ 104 := rr 104 (by omega)
      have rr105 : gI σ1 105 = gI σ 105 := rr 105 (by omega)
      have hown : ∀ o p net, rOwn σ1 o p net = rOwn σ o p net := fun o p net => congrFun (rOwn_cg (p := p) (net := net) hq) o
      have htl : ∀ t net wk, rTl σ1 t net wk = rTl σ t net wk := fun t net wk => rTl_cg rr91
      have hrn : ∀ net k, RQ (runS σ1 net np no k) (runS σ net np no k) := fun net k => runS_cg (RQ_00 hq) hI.2.1.2.1.1.2.2 k
      have hrn1 : ∀ net k t o, rRest (runS σ1 net np no k) t o = rRest (runS σ net np no k) t o := fun net k t o => rRest_cg (hrn net k)
      have hrn2 : ∀ net k, gI (runS σ1 net np no k) 94 = gI (runS σ net np no k) 94 := fun net k => (hrn net k).2.1
      have hrn3 : ∀ net k, gI (runS σ1 net np no k) 95 = gI (runS σ net np no k) 95 := fun net k => (hrn net k).2.2.1
      have hrn4 : ∀ net k, anyO (runS σ1 net np no k) no = anyO (runS σ net np no k) no := fun net k => anyO_cg (hrn net k) no
      refine M_weeks_n hd hI1 hp0 (fun σ2 r2 => ?_)
      try simp only [rr91, rr94, rr95, rr96, rr97, rr98, rr99, rr100, rr103, rr104, rr105, rr89, rPay_cg hq, rIn_cg hq, rLive_cg hq, rRest_cg hq, rFloor_cg hq, rAt_cg hq, hown, htl, hrn1, hrn2, hrn3, hrn4]
      exact h σ2 r2
  by_cases hk : 1 ≤ wk ∧ wk ≤ 60
  rotate_left
  · refine RO_p2 (by decide) hI (fun Rt h => X_weeks_b hd hI hp hk h) (fun σ1 hI1 hq rr Rt h => ?_)
    have rr89 : gI σ1 89 = gI σ 89 := rr 89 (by omega)
    have rr91 : gI σ1 91 = gI σ 91 := rr 91 (by omega)
    have rr94 : gI σ1 94 = gI σ 94 := rr 94 (by omega)
    have rr95 : gI σ1 95 = gI σ 95 := rr 95 (by omega)
    have rr96 : gI σ1 96 = gI σ 96 := rr 96 (by omega)
    have rr97 : gI σ1 97 = gI σ 97 := rr 97 (by omega)
    have rr98 : gI σ1 98 = gI σ 98 := rr 98 (by omega)
    have rr99 : gI σ1 99 = gI σ 99 := rr 99 (by omega)
    have rr100 : gI σ1 100 = gI σ 100 := rr 100 (by omega)
    have rr103 : gI σ1 103 = gI σ 103 := rr 103 (by omega)
    have rr104 : gI σ1 104 = gI σ 104 := rr 104 (by omega)
    have rr105 : gI σ1 105 = gI σ 105 := rr 105 (by omega)
    have hown : ∀ o p net, rOwn σ1 o p net = rOwn σ o p net := fun o p net => congrFun (rOwn_cg (p := p) (net := net) hq) o
    have htl : ∀ t net wk, rTl σ1 t net wk = rTl σ t net wk := fun t net wk => rTl_cg rr91
    have hrn : ∀ net k, RQ (runS σ1 net np no k) (runS σ net np no k) := fun net k => runS_cg (RQ_00 hq) hI.2.1.2.1.1.2.2 k
    have hrn1 : ∀ net k t o, rRest (runS σ1 net np no k) t o = rRest (runS σ net np no k) t o := fun net k t o => rRest_cg (hrn net k)
    have hrn2 : ∀ net k, gI (runS σ1 net np no k) 94 = gI (runS σ net np no k) 94 := fun net k => (hrn net k).2.1
    have hrn3 : ∀ net k, gI (runS σ1 net np no k) 95 = gI (runS σ net np no k) 95 := fun net k => (hrn net k).2.2.1
    have hrn4 : ∀ net k, anyO (runS σ1 net np no k) no = anyO (runS σ net np no k) no := fun net k => anyO_cg (hrn net k) no
    refine M_weeks_b hd hI1 hp hk (fun σ2 r2 => ?_)
    try simp only [rr91, rr94, rr95, rr96, rr97, rr98, rr99, rr100, rr103, rr104, rr105, rr89, rPay_cg hq, rIn_cg hq, rLive_cg hq, rRest_cg hq, rFloor_cg hq, rAt_cg hq, hown, htl, hrn1, hrn2, hrn3, hrn4]
    exact h σ2 r2
  obtain ⟨k, hk2, rfl⟩ := in_1 (n := 60) (by omega) hk
  exact PA_weeks_t hd hI hp hk2
theorem PC_pay (hd : 14 ≤ d) (hI : InvB σ b b' nt np no K nx T (999999 * c)) (hc : c ≤ 512) : Pair d q_X9_pay q_X10_pay [.ref 0, .int i, .int net] [.ref 89, .int i, .int net] σ (fun σ2 => INV σ2 (c + 1)) := by
  have hb1 := hI.2.1.2.1.1
  have hB : (999999 * (c : Int)) ≤ 1000000000 := by omega
  by_cases hi : 0 ≤ i ∧ i < nI np
  rotate_left
  · refine RO_p2 (by decide) hI (fun Rt h => X_pay_n hd hI hi h) (fun σ1 hI1 hq rr Rt h => ?_)
    have rr89 : gI σ1 89 = gI σ 89 := rr 89 (by omega)
    have rr91 : gI σ1 91 = gI σ 91 := rr 91 (by omega)
    have rr94 : gI σ1 94 = gI σ 94 := rr 94 (by omega)
    have rr95 : gI σ1 95 = gI σ 95 := rr 95 (by omega)
    have rr96 : gI σ1 96 = gI σ 96 := rr 96 (by omega)
    have rr97 : gI σ1 97 = gI σ 97 := rr 97 (by omega)
    have rr98 : gI σ1 98 = gI σ 98 := rr 98 (by omega)
    have rr99 : gI σ1 99 = gI σ 99 := rr 99 (by omega)
    have rr100 : gI σ1 100 = gI σ 100 := rr 100 (by omega)
    have rr103 : gI σ1 103 = gI σ 103 := rr 103 (by omega)
    have rr104 : gI σ1 104 = gI σ 104 := rr 104 (by omega)
    have rr105 : gI σ1 105 = gI σ 105 := rr 105 (by omega)
    have hown : ∀ o p net, rOwn σ1 o p net = rOwn σ o p net := fun o p net => congrFun (rOwn_cg (p := p) (net := net) hq) o
    have htl : ∀ t net wk, rTl σ1 t net wk = rTl σ t net wk := fun t net wk => rTl_cg rr91
    have hrn : ∀ net k, RQ (runS σ1 net np no k) (runS σ net np no k) := fun net k => runS_cg (RQ_00 hq) hI.2.1.2.1.1.2.2 k
    have hrn1 : ∀ net k t o, rRest (runS σ1 net np no k) t o = rRest (runS σ net np no k) t o := fun net k t o => rRest_cg (hrn net k)
    have hrn2 : ∀ net k, gI (runS σ1 net np no k) 94 = gI (runS σ net np no k) 94 := fun net k => (hrn net k).2.1
    have hrn3 : ∀ net k, gI (runS σ1 net np no k) 95 = gI (runS σ net np no k) 95 := fun net k => (hrn net k).2.2.1
    have hrn4 : ∀ net k, anyO (runS σ1 net np no k) no = anyO (runS σ net np no k) no := fun net k => anyO_cg (hrn net k) no
    refine M_pay_n hd hI1 hi (fun σ2 r2 => ?_)
    try simp only [rr91, rr94, rr95, rr96, rr97, rr98, rr99, rr100, rr103, rr104, rr105, rr89, rPay_cg hq, rIn_cg hq, rLive_cg hq, rRest_cg hq, rFloor_cg hq, rAt_cg hq, hown, htl, hrn1, hrn2, hrn3, hrn4]
    exact h σ2 r2
  obtain ⟨p, hp, rfl⟩ := in_of (by omega) hi
  by_cases hnet : 0 ≤ net ∧ net ≤ 9999
  rotate_left
  · refine RO_p2 (by decide) hI (fun Rt h => X_pay_b hd hI hp hnet h) (fun σ1 hI1 hq rr Rt h => ?_)
    have rr89 : gI σ1 89 = gI σ 89 := rr 89 (by omega)
    have rr91 : gI σ1 91 = gI σ 91 := rr 91 (by omega)
    have rr94 : gI σ1 94 = gI σ 94 := rr 94 (by omega)
    have rr95 : gI σ1 95 = gI σ 95 := rr 95 (by omega)
    have rr96 : gI σ1 96 = gI σ 96 := rr 96 (by omega)
    have rr97 : gI σ1 97 = gI σ 97 := rr 97 (by omega)
    have rr98 : gI σ1 98 = gI σ 98 := rr 98 (by omega)
    have rr99 : gI σ1 99 = gI σ 99 := rr 99 (by omega)
    have rr100 : gI σ1 100 = gI σ 100 := rr 100 (by omega)
    have rr103 : gI σ1 103 = gI σ 103 := rr 103 (by omega)
    have rr104 : gI σ1 104 = gI σ 104 := rr 104 (by omega)
    have rr105 : gI σ1 105 = gI σ 105 := rr 105 (by omega)
    have hown : ∀ o p net, rOwn σ1 o p net = rOwn σ o p net := fun o p net => congrFun (rOwn_cg (p := p) (net := net) hq) o
    have htl : ∀ t net wk, rTl σ1 t net wk = rTl σ t net wk := fun t net wk => rTl_cg rr91
    have hrn : ∀ net k, RQ (runS σ1 net np no k) (runS σ net np no k) := fun net k => runS_cg (RQ_00 hq) hI.2.1.2.1.1.2.2 k
    have hrn1 : ∀ net k t o, rRest (runS σ1 net np no k) t o = rRest (runS σ net np no k) t o := fun net k t o => rRest_cg (hrn net k)
    have hrn2 : ∀ net k, gI (runS σ1 net np no k) 94 = gI (runS σ net np no k) 94 := fun net k => (hrn net k).2.1
    have hrn3 : ∀ net k, gI (runS σ1 net np no k) 95 = gI (runS σ net np no k) 95 := fun net k => (hrn net k).2.2.1
    have hrn4 : ∀ net k, anyO (runS σ1 net np no k) no = anyO (runS σ net np no k) no := fun net k => anyO_cg (hrn net k) no
    refine M_pay_b hd hI1 hp hnet (fun σ2 r2 => ?_)
    try simp only [rr91, rr94, rr95, rr96, rr97, rr98, rr99, rr100, rr103, rr104, rr105, rr89, rPay_cg hq, rIn_cg hq, rLive_cg hq, rRest_cg hq, rFloor_cg hq, rAt_cg hq, hown, htl, hrn1, hrn2, hrn3, hrn4]
    exact h σ2 r2
  exact PA_pay_t hd hI hc hp hnet
theorem PC_stop (hd : 14 ≤ d) (hI : InvB σ b b' nt np no K nx T (999999 * c)) (hc : c ≤ 512) (hv : v = 0 ∨ v = 1) : Pair d q_X9_stop q_X10_stop [.ref 0, .int i, .int v] [.ref 89, .int i, .int v] σ (fun σ2 => INV σ2 (c + 1)) := by
  have hb1 := hI.2.1.2.1.1
  have hB : (999999 * (c : Int)) ≤ 1000000000 := by omega
  by_cases hi : 0 ≤ i ∧ i < nI no
  rotate_left
  · refine RO_p2 (by decide) hI (fun Rt h => X_stop_n hd hI hi h) (fun σ1 hI1 hq rr Rt h => ?_)
    have rr89 : gI σ1 89 = gI σ 89 := rr 89 (by omega)
    have rr91 : gI σ1 91 = gI σ 91 := rr 91 (by omega)
    have rr94 : gI σ1 94 = gI σ 94 := rr 94 (by omega)
    have rr95 : gI σ1 95 = gI σ 95 := rr 95 (by omega)
    have rr96 : gI σ1 96 = gI σ 96 := rr 96 (by omega)
    have rr97 : gI σ1 97 = gI σ 97 := rr 97 (by omega)
    have rr98 : gI σ1 98 = gI σ 98 := rr 98 (by omega)
    have rr99 : gI σ1 99 = gI σ 99 := rr 99 (by omega)
    have rr100 : gI σ1 100 = gI σ 100 := rr 100 (by omega)
    have rr103 : gI σ1 103 = gI σ 103 := rr 103 (by omega)
    have rr104 : gI σ1 104 = gI σ 104 := rr 104 (by omega)
    have rr105 : gI σ1 105 = gI σ 105 := rr 105 (by omega)
    have hown : ∀ o p net, rOwn σ1 o p net = rOwn σ o p net := fun o p net => congrFun (rOwn_cg (p := p) (net := net) hq) o
    have htl : ∀ t net wk, rTl σ1 t net wk = rTl σ t net wk := fun t net wk => rTl_cg rr91
    have hrn : ∀ net k, RQ (runS σ1 net np no k) (runS σ net np no k) := fun net k => runS_cg (RQ_00 hq) hI.2.1.2.1.1.2.2 k
    have hrn1 : ∀ net k t o, rRest (runS σ1 net np no k) t o = rRest (runS σ net np no k) t o := fun net k t o => rRest_cg (hrn net k)
    have hrn2 : ∀ net k, gI (runS σ1 net np no k) 94 = gI (runS σ net np no k) 94 := fun net k => (hrn net k).2.1
    have hrn3 : ∀ net k, gI (runS σ1 net np no k) 95 = gI (runS σ net np no k) 95 := fun net k => (hrn net k).2.2.1
    have hrn4 : ∀ net k, anyO (runS σ1 net np no k) no = anyO (runS σ net np no k) no := fun net k => anyO_cg (hrn net k) no
    refine M_stop_n hd hI1 hi (fun σ2 r2 => ?_)
    try simp only [rr91, rr94, rr95, rr96, rr97, rr98, rr99, rr100, rr103, rr104, rr105, rr89, rPay_cg hq, rIn_cg hq, rLive_cg hq, rRest_cg hq, rFloor_cg hq, rAt_cg hq, hown, htl, hrn1, hrn2, hrn3, hrn4]
    exact h σ2 r2
  obtain ⟨o, ho, rfl⟩ := in_of (by omega) hi
  have hOB := hI.2.1.2.2.1 o ho
  by_cases hs : gI σ 100 o = v
  · refine RO_p2 (by decide) hI (fun Rt h => X_stop_s hd hI ho hs h) (fun σ1 hI1 hq rr Rt h => ?_)
    have rr89 : gI σ1 89 = gI σ 89 := rr 89 (by omega)
    have rr91 : gI σ1 91 = gI σ 91 := rr 91 (by omega)
    have rr94 : gI σ1 94 = gI σ 94 := rr 94 (by omega)
    have rr95 : gI σ1 95 = gI σ 95 := rr 95 (by omega)
    have rr96 : gI σ1 96 = gI σ 96 := rr 96 (by omega)
    have rr97 : gI σ1 97 = gI σ 97 := rr 97 (by omega)
    have rr98 : gI σ1 98 = gI σ 98 := rr 98 (by omega)
    have rr99 : gI σ1 99 = gI σ 99 := rr 99 (by omega)
    have rr100 : gI σ1 100 = gI σ 100 := rr 100 (by omega)
    have rr103 : gI σ1 103 = gI σ 103 := rr 103 (by omega)
    have rr104 : gI σ1 104 = gI σ 104 := rr 104 (by omega)
    have rr105 : gI σ1 105 = gI σ 105 := rr 105 (by omega)
    have hown : ∀ o p net, rOwn σ1 o p net = rOwn σ o p net := fun o p net => congrFun (rOwn_cg (p := p) (net := net) hq) o
    have htl : ∀ t net wk, rTl σ1 t net wk = rTl σ t net wk := fun t net wk => rTl_cg rr91
    have hrn : ∀ net k, RQ (runS σ1 net np no k) (runS σ net np no k) := fun net k => runS_cg (RQ_00 hq) hI.2.1.2.1.1.2.2 k
    have hrn1 : ∀ net k t o, rRest (runS σ1 net np no k) t o = rRest (runS σ net np no k) t o := fun net k t o => rRest_cg (hrn net k)
    have hrn2 : ∀ net k, gI (runS σ1 net np no k) 94 = gI (runS σ net np no k) 94 := fun net k => (hrn net k).2.1
    have hrn3 : ∀ net k, gI (runS σ1 net np no k) 95 = gI (runS σ net np no k) 95 := fun net k => (hrn net k).2.2.1
    have hrn4 : ∀ net k, anyO (runS σ1 net np no k) no = anyO (runS σ net np no k) no := fun net k => anyO_cg (hrn net k) no
    have hs' := hs
    try simp only [← rr91, ← rr94, ← rr95, ← rr96, ← rr100, ← rLive_cg hq, ← rRest_cg hq, ← rIn_cg hq] at hs'
    refine M_stop_s hd hI1 ho hs' (fun σ2 r2 => ?_)
    try simp only [rr91, rr94, rr95, rr96, rr97, rr98, rr99, rr100, rr103, rr104, rr105, rr89, rPay_cg hq, rIn_cg hq, rLive_cg hq, rRest_cg hq, rFloor_cg hq, rAt_cg hq, hown, htl, hrn1, hrn2, hrn3, hrn4]
    exact h σ2 r2
  exact PA_stop_t hd hI hc ho hv hs
theorem PC_rank (hd : 14 ≤ d) (hI : InvB σ b b' nt np no K nx T (999999 * c)) (hc : c ≤ 512) : Pair d q_X9_rank q_X10_rank [.ref 0, .int i, .int r] [.ref 89, .int i, .int r] σ (fun σ2 => INV σ2 (c + 1)) := by
  have hb1 := hI.2.1.2.1.1
  have hB : (999999 * (c : Int)) ≤ 1000000000 := by omega
  by_cases hi : 0 ≤ i ∧ i < nI no
  rotate_left
  · refine RO_p2 (by decide) hI (fun Rt h => X_rank_n hd hI hi h) (fun σ1 hI1 hq rr Rt h => ?_)
    have rr89 : gI σ1 89 = gI σ 89 := rr 89 (by omega)
    have rr91 : gI σ1 91 = gI σ 91 := rr 91 (by omega)
    have rr94 : gI σ1 94 = gI σ 94 := rr 94 (by omega)
    have rr95 : gI σ1 95 = gI σ 95 := rr 95 (by omega)
    have rr96 : gI σ1 96 = gI σ 96 := rr 96 (by omega)
    have rr97 : gI σ1 97 = gI σ 97 := rr 97 (by omega)
    have rr98 : gI σ1 98 = gI σ 98 := rr 98 (by omega)
    have rr99 : gI σ1 99 = gI σ 99 := rr 99 (by omega)
    have rr100 : gI σ1 100 = gI σ 100 := rr 100 (by omega)
    have rr103 : gI σ1 103 = gI σ 103 := rr 103 (by omega)
    have rr104 : gI σ1 104 = gI σ 104 := rr 104 (by omega)
    have rr105 : gI σ1 105 = gI σ 105 := rr 105 (by omega)
    have hown : ∀ o p net, rOwn σ1 o p net = rOwn σ o p net := fun o p net => congrFun (rOwn_cg (p := p) (net := net) hq) o
    have htl : ∀ t net wk, rTl σ1 t net wk = rTl σ t net wk := fun t net wk => rTl_cg rr91
    have hrn : ∀ net k, RQ (runS σ1 net np no k) (runS σ net np no k) := fun net k => runS_cg (RQ_00 hq) hI.2.1.2.1.1.2.2 k
    have hrn1 : ∀ net k t o, rRest (runS σ1 net np no k) t o = rRest (runS σ net np no k) t o := fun net k t o => rRest_cg (hrn net k)
    have hrn2 : ∀ net k, gI (runS σ1 net np no k) 94 = gI (runS σ net np no k) 94 := fun net k => (hrn net k).2.1
    have hrn3 : ∀ net k, gI (runS σ1 net np no k) 95 = gI (runS σ net np no k) 95 := fun net k => (hrn net k).2.2.1
    have hrn4 : ∀ net k, anyO (runS σ1 net np no k) no = anyO (runS σ net np no k) no := fun net k => anyO_cg (hrn net k) no
    refine M_rank_n hd hI1 hi (fun σ2 r2 => ?_)
    try simp only [rr91, rr94, rr95, rr96, rr97, rr98, rr99, rr100, rr103, rr104, rr105, rr89, rPay_cg hq, rIn_cg hq, rLive_cg hq, rRest_cg hq, rFloor_cg hq, rAt_cg hq, hown, htl, hrn1, hrn2, hrn3, hrn4]
    exact h σ2 r2
  obtain ⟨o, ho, rfl⟩ := in_of (by omega) hi
  have hOB := hI.2.1.2.2.1 o ho
  by_cases hn : 1 ≤ r ∧ r ≤ 9
  rotate_left
  · refine RO_p2 (by decide) hI (fun Rt h => X_rank_b hd hI ho hn h) (fun σ1 hI1 hq rr Rt h => ?_)
    have rr89 : gI σ1 89 = gI σ 89 := rr 89 (by omega)
    have rr91 : gI σ1 91 = gI σ 91 := rr 91 (by omega)
    have rr94 : gI σ1 94 = gI σ 94 := rr 94 (by omega)
    have rr95 : gI σ1 95 = gI σ 95 := rr 95 (by omega)
    have rr96 : gI σ1 96 = gI σ 96 := rr 96 (by omega)
    have rr97 : gI σ1 97 = gI σ 97 := rr 97 (by omega)
    have rr98 : gI σ1 98 = gI σ 98 := rr 98 (by omega)
    have rr99 : gI σ1 99 = gI σ 99 := rr 99 (by omega)
    have rr100 : gI σ1 100 = gI σ 100 := rr 100 (by omega)
    have rr103 : gI σ1 103 = gI σ 103 := rr 103 (by omega)
    have rr104 : gI σ1 104 = gI σ 104 := rr 104 (by omega)
    have rr105 : gI σ1 105 = gI σ 105 := rr 105 (by omega)
    have hown : ∀ o p net, rOwn σ1 o p net = rOwn σ o p net := fun o p net => congrFun (rOwn_cg (p := p) (net := net) hq) o
    have htl : ∀ t net wk, rTl σ1 t net wk = rTl σ t net wk := fun t net wk => rTl_cg rr91
    have hrn : ∀ net k, RQ (runS σ1 net np no k) (runS σ net np no k) := fun net k => runS_cg (RQ_00 hq) hI.2.1.2.1.1.2.2 k
    have hrn1 : ∀ net k t o, rRest (runS σ1 net np no k) t o = rRest (runS σ net np no k) t o := fun net k t o => rRest_cg (hrn net k)
    have hrn2 : ∀ net k, gI (runS σ1 net np no k) 94 = gI (runS σ net np no k) 94 := fun net k => (hrn net k).2.1
    have hrn3 : ∀ net k, gI (runS σ1 net np no k) 95 = gI (runS σ net np no k) 95 := fun net k => (hrn net k).2.2.1
    have hrn4 : ∀ net k, anyO (runS σ1 net np no k) no = anyO (runS σ net np no k) no := fun net k => anyO_cg (hrn net k) no
    refine M_rank_b hd hI1 ho hn (fun σ2 r2 => ?_)
    try simp only [rr91, rr94, rr95, rr96, rr97, rr98, rr99, rr100, rr103, rr104, rr105, rr89, rPay_cg hq, rIn_cg hq, rLive_cg hq, rRest_cg hq, rFloor_cg hq, rAt_cg hq, hown, htl, hrn1, hrn2, hrn3, hrn4]
    exact h σ2 r2
  exact PA_rank_t hd hI hc ho hn
theorem PC_at (hd : 14 ≤ d) (hI : InvB σ b b' nt np no K nx T (999999 * c)) (hc : c ≤ 512) : Pair d q_X9_at q_X10_at [.ref 0, .int i, .int r] [.ref 89, .int i, .int r] σ (fun σ2 => INV σ2 (c + 1)) := by
  have hb1 := hI.2.1.2.1.1
  have hB : (999999 * (c : Int)) ≤ 1000000000 := by omega
  by_cases hi : 0 ≤ i ∧ i < nI no
  rotate_left
  · refine RO_p2 (by decide) hI (fun Rt h => X_at_n hd hI hi h) (fun σ1 hI1 hq rr Rt h => ?_)
    have rr89 : gI σ1 89 = gI σ 89 := rr 89 (by omega)
    have rr91 : gI σ1 91 = gI σ 91 := rr 91 (by omega)
    have rr94 : gI σ1 94 = gI σ 94 := rr 94 (by omega)
    have rr95 : gI σ1 95 = gI σ 95 := rr 95 (by omega)
    have rr96 : gI σ1 96 = gI σ 96 := rr 96 (by omega)
    have rr97 : gI σ1 97 = gI σ 97 := rr 97 (by omega)
    have rr98 : gI σ1 98 = gI σ 98 := rr 98 (by omega)
    have rr99 : gI σ1 99 = gI σ 99 := rr 99 (by omega)
    have rr100 : gI σ1 100 = gI σ 100 := rr 100 (by omega)
    have rr103 : gI σ1 103 = gI σ 103 := rr 103 (by omega)
    have rr104 : gI σ1 104 = gI σ 104 := rr 104 (by omega)
    have rr105 : gI σ1 105 = gI σ 105 := rr 105 (by omega)
    have hown : ∀ o p net, rOwn σ1 o p net = rOwn σ o p net := fun o p net => congrFun (rOwn_cg (p := p) (net := net) hq) o
    have htl : ∀ t net wk, rTl σ1 t net wk = rTl σ t net wk := fun t net wk => rTl_cg rr91
    have hrn : ∀ net k, RQ (runS σ1 net np no k) (runS σ net np no k) := fun net k => runS_cg (RQ_00 hq) hI.2.1.2.1.1.2.2 k
    have hrn1 : ∀ net k t o, rRest (runS σ1 net np no k) t o = rRest (runS σ net np no k) t o := fun net k t o => rRest_cg (hrn net k)
    have hrn2 : ∀ net k, gI (runS σ1 net np no k) 94 = gI (runS σ net np no k) 94 := fun net k => (hrn net k).2.1
    have hrn3 : ∀ net k, gI (runS σ1 net np no k) 95 = gI (runS σ net np no k) 95 := fun net k => (hrn net k).2.2.1
    have hrn4 : ∀ net k, anyO (runS σ1 net np no k) no = anyO (runS σ net np no k) no := fun net k => anyO_cg (hrn net k) no
    refine M_at_n hd hI1 hi (fun σ2 r2 => ?_)
    try simp only [rr91, rr94, rr95, rr96, rr97, rr98, rr99, rr100, rr103, rr104, rr105, rr89, rPay_cg hq, rIn_cg hq, rLive_cg hq, rRest_cg hq, rFloor_cg hq, rAt_cg hq, hown, htl, hrn1, hrn2, hrn3, hrn4]
    exact h σ2 r2
  obtain ⟨o, ho, rfl⟩ := in_of (by omega) hi
  have hOB := hI.2.1.2.2.1 o ho
  by_cases hn : 1 ≤ r ∧ r ≤ 7
  rotate_left
  · refine RO_p2 (by decide) hI (fun Rt h => X_at_b hd hI ho hn h) (fun σ1 hI1 hq rr Rt h => ?_)
    have rr89 : gI σ1 89 = gI σ 89 := rr 89 (by omega)
    have rr91 : gI σ1 91 = gI σ 91 := rr 91 (by omega)
    have rr94 : gI σ1 94 = gI σ 94 := rr 94 (by omega)
    have rr95 : gI σ1 95 = gI σ 95 := rr 95 (by omega)
    have rr96 : gI σ1 96 = gI σ 96 := rr 96 (by omega)
    have rr97 : gI σ1 97 = gI σ 97 := rr 97 (by omega)
    have rr98 : gI σ1 98 = gI σ 98 := rr 98 (by omega)
    have rr99 : gI σ1 99 = gI σ 99 := rr 99 (by omega)
    have rr100 : gI σ1 100 = gI σ 100 := rr 100 (by omega)
    have rr103 : gI σ1 103 = gI σ 103 := rr 103 (by omega)
    have rr104 : gI σ1 104 = gI σ 104 := rr 104 (by omega)
    have rr105 : gI σ1 105 = gI σ 105 := rr 105 (by omega)
    have hown : ∀ o p net, rOwn σ1 o p net = rOwn σ o p net := fun o p net => congrFun (rOwn_cg (p := p) (net := net) hq) o
    have htl : ∀ t net wk, rTl σ1 t net wk = rTl σ t net wk := fun t net wk => rTl_cg rr91
    have hrn : ∀ net k, RQ (runS σ1 net np no k) (runS σ net np no k) := fun net k => runS_cg (RQ_00 hq) hI.2.1.2.1.1.2.2 k
    have hrn1 : ∀ net k t o, rRest (runS σ1 net np no k) t o = rRest (runS σ net np no k) t o := fun net k t o => rRest_cg (hrn net k)
    have hrn2 : ∀ net k, gI (runS σ1 net np no k) 94 = gI (runS σ net np no k) 94 := fun net k => (hrn net k).2.1
    have hrn3 : ∀ net k, gI (runS σ1 net np no k) 95 = gI (runS σ net np no k) 95 := fun net k => (hrn net k).2.2.1
    have hrn4 : ∀ net k, anyO (runS σ1 net np no k) no = anyO (runS σ net np no k) no := fun net k => anyO_cg (hrn net k) no
    refine M_at_b hd hI1 ho hn (fun σ2 r2 => ?_)
    try simp only [rr91, rr94, rr95, rr96, rr97, rr98, rr99, rr100, rr103, rr104, rr105, rr89, rPay_cg hq, rIn_cg hq, rLive_cg hq, rRest_cg hq, rFloor_cg hq, rAt_cg hq, hown, htl, hrn1, hrn2, hrn3, hrn4]
    exact h σ2 r2
  exact PA_at_t hd hI hc ho hn
theorem PC_raise (hd : 14 ≤ d) (hI : InvB σ b b' nt np no K nx T (999999 * c)) (hc : c ≤ 512) : Pair d q_X9_raise q_X10_raise [.ref 0, .int i, .int r] [.ref 89, .int i, .int r] σ (fun σ2 => INV σ2 (c + 1)) := by
  have hb1 := hI.2.1.2.1.1
  have hB : (999999 * (c : Int)) ≤ 1000000000 := by omega
  by_cases hi : 0 ≤ i ∧ i < nI no
  rotate_left
  · refine RO_p2 (by decide) hI (fun Rt h => X_raise_n hd hI hi h) (fun σ1 hI1 hq rr Rt h => ?_)
    have rr89 : gI σ1 89 = gI σ 89 := rr 89 (by omega)
    have rr91 : gI σ1 91 = gI σ 91 := rr 91 (by omega)
    have rr94 : gI σ1 94 = gI σ 94 := rr 94 (by omega)
    have rr95 : gI σ1 95 = gI σ 95 := rr 95 (by omega)
    have rr96 : gI σ1 96 = gI σ 96 := rr 96 (by omega)
    have rr97 : gI σ1 97 = gI σ 97 := rr 97 (by omega)
    have rr98 : gI σ1 98 = gI σ 98 := rr 98 (by omega)
    have rr99 : gI σ1 99 = gI σ 99 := rr 99 (by omega)
    have rr100 : gI σ1 100 = gI σ 100 := rr 100 (by omega)
    have rr103 : gI σ1 103 = gI σ 103 := rr 103 (by omega)
    have rr104 : gI σ1 104 = gI σ 104 := rr 104 (by omega)
    have rr105 : gI σ1 105 = gI σ 105 := rr 105 (by omega)
    have hown : ∀ o p net, rOwn σ1 o p net = rOwn σ o p net := fun o p net => congrFun (rOwn_cg (p := p) (net := net) hq) o
    have htl : ∀ t net wk, rTl σ1 t net wk = rTl σ t net wk := fun t net wk => rTl_cg rr91
    have hrn : ∀ net k, RQ (runS σ1 net np no k) (runS σ net np no k) := fun net k => runS_cg (RQ_00 hq) hI.2.1.2.1.1.2.2 k
    have hrn1 : ∀ net k t o, rRest (runS σ1 net np no k) t o = rRest (runS σ net np no k) t o := fun net k t o => rRest_cg (hrn net k)
    have hrn2 : ∀ net k, gI (runS σ1 net np no k) 94 = gI (runS σ net np no k) 94 := fun net k => (hrn net k).2.1
    have hrn3 : ∀ net k, gI (runS σ1 net np no k) 95 = gI (runS σ net np no k) 95 := fun net k => (hrn net k).2.2.1
    have hrn4 : ∀ net k, anyO (runS σ1 net np no k) no = anyO (runS σ net np no k) no := fun net k => anyO_cg (hrn net k) no
    refine M_raise_n hd hI1 hi (fun σ2 r2 => ?_)
    try simp only [rr91, rr94, rr95, rr96, rr97, rr98, rr99, rr100, rr103, rr104, rr105, rr89, rPay_cg hq, rIn_cg hq, rLive_cg hq, rRest_cg hq, rFloor_cg hq, rAt_cg hq, hown, htl, hrn1, hrn2, hrn3, hrn4]
    exact h σ2 r2
  obtain ⟨o, ho, rfl⟩ := in_of (by omega) hi
  have hOB := hI.2.1.2.2.1 o ho
  rcases hOB.2.2.2.1 with ⟨hk, -⟩ | ⟨hk, -⟩ | ⟨hk, -⟩
  · by_cases hn : 1 ≤ r ∧ r ≤ 999
    rotate_left
    · refine RO_p2 (by decide) hI (fun Rt h => X_raise_b0 hd hI ho hk hn h) (fun σ1 hI1 hq rr Rt h => ?_)
      have rr89 : gI σ1 89 = gI σ 89 := rr 89 (by omega)
      have rr91 : gI σ1 91 = gI σ 91 := rr 91 (by omega)
      have rr94 : gI σ1 94 = gI σ 94 := rr 94 (by omega)
      have rr95 : gI σ1 95 = gI σ 95 := rr 95 (by omega)
      have rr96 : gI σ1 96 = gI σ 96 := rr 96 (by omega)
      have rr97 : gI σ1 97 = gI σ 97 := rr 97 (by omega)
      have rr98 : gI σ1 98 = gI σ 98 := rr 98 (by omega)
      have rr99 : gI σ1 99 = gI σ 99 := rr 99 (by omega)
      have rr100 : gI σ1 100 = gI σ 100 := rr 100 (by omega)
      have rr103 : gI σ1 103 = gI σ 103 := rr 103 (by omega)
      have rr104 : gI σ1 104 = gI σ 104 := rr 104 (by omega)
      have rr105 : gI σ1 105 = gI σ 105 := rr 105 (by omega)
      have hown : ∀ o p net, rOwn σ1 o p net = rOwn σ o p net := fun o p net => congrFun (rOwn_cg (p := p) (net := net) hq) o
      have htl : ∀ t net wk, rTl σ1 t net wk = rTl σ t net wk := fun t net wk => rTl_cg rr91
      have hrn : ∀ net k, RQ (runS σ1 net np no k) (runS σ net np no k) := fun net k => runS_cg (RQ_00 hq) hI.2.1.2.1.1.2.2 k
      have hrn1 : ∀ net k t o, rRest (runS σ1 net np no k) t o = rRest (runS σ net np no k) t o := fun net k t o => rRest_cg (hrn net k)
      have hrn2 : ∀ net k, gI (runS σ1 net np no k) 94 = gI (runS σ net np no k) 94 := fun net k => (hrn net k).2.1
      have hrn3 : ∀ net k, gI (runS σ1 net np no k) 95 = gI (runS σ net np no k) 95 := fun net k => (hrn net k).2.2.1
      have hrn4 : ∀ net k, anyO (runS σ1 net np no k) no = anyO (runS σ net np no k) no := fun net k => anyO_cg (hrn net k) no
      have hk' := hk
      try simp only [← rr91, ← rr94, ← rr95, ← rr96, ← rr100, ← rLive_cg hq, ← rRest_cg hq, ← rIn_cg hq] at hk'
      refine M_raise_b0 hd hI1 ho hk' hn (fun σ2 r2 => ?_)
      try simp only [rr91, rr94, rr95, rr96, rr97, rr98, rr99, rr100, rr103, rr104, rr105, rr89, rPay_cg hq, rIn_cg hq, rLive_cg hq, rRest_cg hq, rFloor_cg hq, rAt_cg hq, hown, htl, hrn1, hrn2, hrn3, hrn4]
      exact h σ2 r2
    exact PA_raise_0 hd hI hc ho hk hn
  · refine RO_p2 (by decide) hI (fun Rt h => X_raise_k hd hI ho hk h) (fun σ1 hI1 hq rr Rt h => ?_)
    have rr89 : gI σ1 89 = gI σ 89 := rr 89 (by omega)
    have rr91 : gI σ1 91 = gI σ 91 := rr 91 (by omega)
    have rr94 : gI σ1 94 = gI σ 94 := rr 94 (by omega)
    have rr95 : gI σ1 95 = gI σ 95 := rr 95 (by omega)
    have rr96 : gI σ1 96 = gI σ 96 := rr 96 (by omega)
    have rr97 : gI σ1 97 = gI σ 97 := rr 97 (by omega)
    have rr98 : gI σ1 98 = gI σ 98 := rr 98 (by omega)
    have rr99 : gI σ1 99 = gI σ 99 := rr 99 (by omega)
    have rr100 : gI σ1 100 = gI σ 100 := rr 100 (by omega)
    have rr103 : gI σ1 103 = gI σ 103 := rr 103 (by omega)
    have rr104 : gI σ1 104 = gI σ 104 := rr 104 (by omega)
    have rr105 : gI σ1 105 = gI σ 105 := rr 105 (by omega)
    have hown : ∀ o p net, rOwn σ1 o p net = rOwn σ o p net := fun o p net => congrFun (rOwn_cg (p := p) (net := net) hq) o
    have htl : ∀ t net wk, rTl σ1 t net wk = rTl σ t net wk := fun t net wk => rTl_cg rr91
    have hrn : ∀ net k, RQ (runS σ1 net np no k) (runS σ net np no k) := fun net k => runS_cg (RQ_00 hq) hI.2.1.2.1.1.2.2 k
    have hrn1 : ∀ net k t o, rRest (runS σ1 net np no k) t o = rRest (runS σ net np no k) t o := fun net k t o => rRest_cg (hrn net k)
    have hrn2 : ∀ net k, gI (runS σ1 net np no k) 94 = gI (runS σ net np no k) 94 := fun net k => (hrn net k).2.1
    have hrn3 : ∀ net k, gI (runS σ1 net np no k) 95 = gI (runS σ net np no k) 95 := fun net k => (hrn net k).2.2.1
    have hrn4 : ∀ net k, anyO (runS σ1 net np no k) no = anyO (runS σ net np no k) no := fun net k => anyO_cg (hrn net k) no
    have hk' := hk
    try simp only [← rr91, ← rr94, ← rr95, ← rr96, ← rr100, ← rLive_cg hq, ← rRest_cg hq, ← rIn_cg hq] at hk'
    refine M_raise_k hd hI1 ho hk' (fun σ2 r2 => ?_)
    try simp only [rr91, rr94, rr95, rr96, rr97, rr98, rr99, rr100, rr103, rr104, rr105, rr89, rPay_cg hq, rIn_cg hq, rLive_cg hq, rRest_cg hq, rFloor_cg hq, rAt_cg hq, hown, htl, hrn1, hrn2, hrn3, hrn4]
    exact h σ2 r2
  · by_cases hn : 1 ≤ r ∧ r ≤ 99
    rotate_left
    · refine RO_p2 (by decide) hI (fun Rt h => X_raise_b2 hd hI ho hk hn h) (fun σ1 hI1 hq rr Rt h => ?_)
      have rr89 : gI σ1 89 = gI σ 89 := rr 89 (by omega)
      have rr91 : gI σ1 91 = gI σ 91 := rr 91 (by omega)
      have rr94 : gI σ1 94 = gI σ 94 := rr 94 (by omega)
      have rr95 : gI σ1 95 = gI σ 95 := rr 95 (by omega)
      have rr96 : gI σ1 96 = gI σ 96 := rr 96 (by omega)
      have rr97 : gI σ1 97 = gI σ 97 := rr 97 (by omega)
      have rr98 : gI σ1 98 = gI σ 98 := rr 98 (by omega)
      have rr99 : gI σ1 99 = gI σ 99 := rr 99 (by omega)
      have rr100 : gI σ1 100 = gI σ 100 := rr 100 (by omega)
      have rr103 : gI σ1 103 = gI σ 103 := rr 103 (by omega)
      have rr104 : gI σ1 104 = gI σ 104 := rr 104 (by omega)
      have rr105 : gI σ1 105 = gI σ 105 := rr 105 (by omega)
      have hown : ∀ o p net, rOwn σ1 o p net = rOwn σ o p net := fun o p net => congrFun (rOwn_cg (p := p) (net := net) hq) o
      have htl : ∀ t net wk, rTl σ1 t net wk = rTl σ t net wk := fun t net wk => rTl_cg rr91
      have hrn : ∀ net k, RQ (runS σ1 net np no k) (runS σ net np no k) := fun net k => runS_cg (RQ_00 hq) hI.2.1.2.1.1.2.2 k
      have hrn1 : ∀ net k t o, rRest (runS σ1 net np no k) t o = rRest (runS σ net np no k) t o := fun net k t o => rRest_cg (hrn net k)
      have hrn2 : ∀ net k, gI (runS σ1 net np no k) 94 = gI (runS σ net np no k) 94 := fun net k => (hrn net k).2.1
      have hrn3 : ∀ net k, gI (runS σ1 net np no k) 95 = gI (runS σ net np no k) 95 := fun net k => (hrn net k).2.2.1
      have hrn4 : ∀ net k, anyO (runS σ1 net np no k) no = anyO (runS σ net np no k) no := fun net k => anyO_cg (hrn net k) no
      have hk' := hk
      try simp only [← rr91, ← rr94, ← rr95, ← rr96, ← rr100, ← rLive_cg hq, ← rRest_cg hq, ← rIn_cg hq] at hk'
      refine M_raise_b2 hd hI1 ho hk' hn (fun σ2 r2 => ?_)
      try simp only [rr91, rr94, rr95, rr96, rr97, rr98, rr99, rr100, rr103, rr104, rr105, rr89, rPay_cg hq, rIn_cg hq, rLive_cg hq, rRest_cg hq, rFloor_cg hq, rAt_cg hq, hown, htl, hrn1, hrn2, hrn3, hrn4]
      exact h σ2 r2
    exact PA_raise_2 hd hI hc ho hk hn
theorem PC_total (hd : 14 ≤ d) (hI : InvB σ b b' nt np no K nx T (999999 * c)) (hc : c ≤ 512) : Pair d q_X9_total q_X10_total [.ref 0, .int i, .int r] [.ref 89, .int i, .int r] σ (fun σ2 => INV σ2 (c + 1)) := by
  have hb1 := hI.2.1.2.1.1
  have hB : (999999 * (c : Int)) ≤ 1000000000 := by omega
  by_cases hi : 0 ≤ i ∧ i < nI no
  rotate_left
  · refine RO_p2 (by decide) hI (fun Rt h => X_total_n hd hI hi h) (fun σ1 hI1 hq rr Rt h => ?_)
    have rr89 : gI σ1 89 = gI σ 89 := rr 89 (by omega)
    have rr91 : gI σ1 91 = gI σ 91 := rr 91 (by omega)
    have rr94 : gI σ1 94 = gI σ 94 := rr 94 (by omega)
    have rr95 : gI σ1 95 = gI σ 95 := rr 95 (by omega)
    have rr96 : gI σ1 96 = gI σ 96 := rr 96 (by omega)
    have rr97 : gI σ1 97 = gI σ 97 := rr 97 (by omega)
    have rr98 : gI σ1 98 = gI σ 98 := rr 98 (by omega)
    have rr99 : gI σ1 99 = gI σ 99 := rr 99 (by omega)
    have rr100 : gI σ1 100 = gI σ 100 := rr 100 (by omega)
    have rr103 : gI σ1 103 = gI σ 103 := rr 103 (by omega)
    have rr104 : gI σ1 104 = gI σ 104 := rr 104 (by omega)
    have rr105 : gI σ1 105 = gI σ 105 := rr 105 (by omega)
    have hown : ∀ o p net, rOwn σ1 o p net = rOwn σ o p net := fun o p net => congrFun (rOwn_cg (p := p) (net := net) hq) o
    have htl : ∀ t net wk, rTl σ1 t net wk = rTl σ t net wk := fun t net wk => rTl_cg rr91
    have hrn : ∀ net k, RQ (runS σ1 net np no k) (runS σ net np no k) := fun net k => runS_cg (RQ_00 hq) hI.2.1.2.1.1.2.2 k
    have hrn1 : ∀ net k t o, rRest (runS σ1 net np no k) t o = rRest (runS σ net np no k) t o := fun net k t o => rRest_cg (hrn net k)
    have hrn2 : ∀ net k, gI (runS σ1 net np no k) 94 = gI (runS σ net np no k) 94 := fun net k => (hrn net k).2.1
    have hrn3 : ∀ net k, gI (runS σ1 net np no k) 95 = gI (runS σ net np no k) 95 := fun net k => (hrn net k).2.2.1
    have hrn4 : ∀ net k, anyO (runS σ1 net np no k) no = anyO (runS σ net np no k) no := fun net k => anyO_cg (hrn net k) no
    refine M_total_n hd hI1 hi (fun σ2 r2 => ?_)
    try simp only [rr91, rr94, rr95, rr96, rr97, rr98, rr99, rr100, rr103, rr104, rr105, rr89, rPay_cg hq, rIn_cg hq, rLive_cg hq, rRest_cg hq, rFloor_cg hq, rAt_cg hq, hown, htl, hrn1, hrn2, hrn3, hrn4]
    exact h σ2 r2
  obtain ⟨o, ho, rfl⟩ := in_of (by omega) hi
  have hOB := hI.2.1.2.2.1 o ho
  by_cases hn : 0 ≤ r ∧ r ≤ 99999
  rotate_left
  · refine RO_p2 (by decide) hI (fun Rt h => X_total_b hd hI ho hn h) (fun σ1 hI1 hq rr Rt h => ?_)
    have rr89 : gI σ1 89 = gI σ 89 := rr 89 (by omega)
    have rr91 : gI σ1 91 = gI σ 91 := rr 91 (by omega)
    have rr94 : gI σ1 94 = gI σ 94 := rr 94 (by omega)
    have rr95 : gI σ1 95 = gI σ 95 := rr 95 (by omega)
    have rr96 : gI σ1 96 = gI σ 96 := rr 96 (by omega)
    have rr97 : gI σ1 97 = gI σ 97 := rr 97 (by omega)
    have rr98 : gI σ1 98 = gI σ 98 := rr 98 (by omega)
    have rr99 : gI σ1 99 = gI σ 99 := rr 99 (by omega)
    have rr100 : gI σ1 100 = gI σ 100 := rr 100 (by omega)
    have rr103 : gI σ1 103 = gI σ 103 := rr 103 (by omega)
    have rr104 : gI σ1 104 = gI σ 104 := rr 104 (by omega)
    have rr105 : gI σ1 105 = gI σ 105 := rr 105 (by omega)
    have hown : ∀ o p net, rOwn σ1 o p net = rOwn σ o p net := fun o p net => congrFun (rOwn_cg (p := p) (net := net) hq) o
    have htl : ∀ t net wk, rTl σ1 t net wk = rTl σ t net wk := fun t net wk => rTl_cg rr91
    have hrn : ∀ net k, RQ (runS σ1 net np no k) (runS σ net np no k) := fun net k => runS_cg (RQ_00 hq) hI.2.1.2.1.1.2.2 k
    have hrn1 : ∀ net k t o, rRest (runS σ1 net np no k) t o = rRest (runS σ net np no k) t o := fun net k t o => rRest_cg (hrn net k)
    have hrn2 : ∀ net k, gI (runS σ1 net np no k) 94 = gI (runS σ net np no k) 94 := fun net k => (hrn net k).2.1
    have hrn3 : ∀ net k, gI (runS σ1 net np no k) 95 = gI (runS σ net np no k) 95 := fun net k => (hrn net k).2.2.1
    have hrn4 : ∀ net k, anyO (runS σ1 net np no k) no = anyO (runS σ net np no k) no := fun net k => anyO_cg (hrn net k) no
    refine M_total_b hd hI1 ho hn (fun σ2 r2 => ?_)
    try simp only [rr91, rr94, rr95, rr96, rr97, rr98, rr99, rr100, rr103, rr104, rr105, rr89, rPay_cg hq, rIn_cg hq, rLive_cg hq, rRest_cg hq, rFloor_cg hq, rAt_cg hq, hown, htl, hrn1, hrn2, hrn3, hrn4]
    exact h σ2 r2
  by_cases hz : r ≤ 0
  · exact PA_total_z hd hI hc ho hn hz
  by_cases hl : gI σ 94 o ≤ r
  · exact PA_total_t hd hI hc ho hn hz hl
  · refine RO_p2 (by decide) hI (fun Rt h => X_total_l hd hI ho hn hz hl h) (fun σ1 hI1 hq rr Rt h => ?_)
    have rr89 : gI σ1 89 = gI σ 89 := rr 89 (by omega)
    have rr91 : gI σ1 91 = gI σ 91 := rr 91 (by omega)
    have rr94 : gI σ1 94 = gI σ 94 := rr 94 (by omega)
    have rr95 : gI σ1 95 = gI σ 95 := rr 95 (by omega)
    have rr96 : gI σ1 96 = gI σ 96 := rr 96 (by omega)
    have rr97 : gI σ1 97 = gI σ 97 := rr 97 (by omega)
    have rr98 : gI σ1 98 = gI σ 98 := rr 98 (by omega)
    have rr99 : gI σ1 99 = gI σ 99 := rr 99 (by omega)
    have rr100 : gI σ1 100 = gI σ 100 := rr 100 (by omega)
    have rr103 : gI σ1 103 = gI σ 103 := rr 103 (by omega)
    have rr104 : gI σ1 104 = gI σ 104 := rr 104 (by omega)
    have rr105 : gI σ1 105 = gI σ 105 := rr 105 (by omega)
    have hown : ∀ o p net, rOwn σ1 o p net = rOwn σ o p net := fun o p net => congrFun (rOwn_cg (p := p) (net := net) hq) o
    have htl : ∀ t net wk, rTl σ1 t net wk = rTl σ t net wk := fun t net wk => rTl_cg rr91
    have hrn : ∀ net k, RQ (runS σ1 net np no k) (runS σ net np no k) := fun net k => runS_cg (RQ_00 hq) hI.2.1.2.1.1.2.2 k
    have hrn1 : ∀ net k t o, rRest (runS σ1 net np no k) t o = rRest (runS σ net np no k) t o := fun net k t o => rRest_cg (hrn net k)
    have hrn2 : ∀ net k, gI (runS σ1 net np no k) 94 = gI (runS σ net np no k) 94 := fun net k => (hrn net k).2.1
    have hrn3 : ∀ net k, gI (runS σ1 net np no k) 95 = gI (runS σ net np no k) 95 := fun net k => (hrn net k).2.2.1
    have hrn4 : ∀ net k, anyO (runS σ1 net np no k) no = anyO (runS σ net np no k) no := fun net k => anyO_cg (hrn net k) no
    have hl' := hl
    try simp only [← rr91, ← rr94, ← rr95, ← rr96, ← rr100, ← rLive_cg hq, ← rRest_cg hq, ← rIn_cg hq] at hl'
    refine M_total_l hd hI1 ho hn hz hl' (fun σ2 r2 => ?_)
    try simp only [rr91, rr94, rr95, rr96, rr97, rr98, rr99, rr100, rr103, rr104, rr105, rr89, rPay_cg hq, rIn_cg hq, rLive_cg hq, rRest_cg hq, rFloor_cg hq, rAt_cg hq, hown, htl, hrn1, hrn2, hrn3, hrn4]
    exact h σ2 r2
theorem PC_back (hd : 14 ≤ d) (hI : InvB σ b b' nt np no K nx T (999999 * c)) (hc : c ≤ 512) : Pair d q_X9_back q_X10_back [.ref 0, .int i, .int r] [.ref 89, .int i, .int r] σ (fun σ2 => INV σ2 (c + 1)) := by
  have hb1 := hI.2.1.2.1.1
  have hB : (999999 * (c : Int)) ≤ 1000000000 := by omega
  by_cases hi : 0 ≤ i ∧ i < nI no
  rotate_left
  · refine RO_p2 (by decide) hI (fun Rt h => X_back_n hd hI hi h) (fun σ1 hI1 hq rr Rt h => ?_)
    have rr89 : gI σ1 89 = gI σ 89 := rr 89 (by omega)
    have rr91 : gI σ1 91 = gI σ 91 := rr 91 (by omega)
    have rr94 : gI σ1 94 = gI σ 94 := rr 94 (by omega)
    have rr95 : gI σ1 95 = gI σ 95 := rr 95 (by omega)
    have rr96 : gI σ1 96 = gI σ 96 := rr 96 (by omega)
    have rr97 : gI σ1 97 = gI σ 97 := rr 97 (by omega)
    have rr98 : gI σ1 98 = gI σ 98 := rr 98 (by omega)
    have rr99 : gI σ1 99 = gI σ 99 := rr 99 (by omega)
    have rr100 : gI σ1 100 = gI σ 100 := rr 100 (by omega)
    have rr103 : gI σ1 103 = gI σ 103 := rr 103 (by omega)
    have rr104 : gI σ1 104 = gI σ 104 := rr 104 (by omega)
    have rr105 : gI σ1 105 = gI σ 105 := rr 105 (by omega)
    have hown : ∀ o p net, rOwn σ1 o p net = rOwn σ o p net := fun o p net => congrFun (rOwn_cg (p := p) (net := net) hq) o
    have htl : ∀ t net wk, rTl σ1 t net wk = rTl σ t net wk := fun t net wk => rTl_cg rr91
    have hrn : ∀ net k, RQ (runS σ1 net np no k) (runS σ net np no k) := fun net k => runS_cg (RQ_00 hq) hI.2.1.2.1.1.2.2 k
    have hrn1 : ∀ net k t o, rRest (runS σ1 net np no k) t o = rRest (runS σ net np no k) t o := fun net k t o => rRest_cg (hrn net k)
    have hrn2 : ∀ net k, gI (runS σ1 net np no k) 94 = gI (runS σ net np no k) 94 := fun net k => (hrn net k).2.1
    have hrn3 : ∀ net k, gI (runS σ1 net np no k) 95 = gI (runS σ net np no k) 95 := fun net k => (hrn net k).2.2.1
    have hrn4 : ∀ net k, anyO (runS σ1 net np no k) no = anyO (runS σ net np no k) no := fun net k => anyO_cg (hrn net k) no
    refine M_back_n hd hI1 hi (fun σ2 r2 => ?_)
    try simp only [rr91, rr94, rr95, rr96, rr97, rr98, rr99, rr100, rr103, rr104, rr105, rr89, rPay_cg hq, rIn_cg hq, rLive_cg hq, rRest_cg hq, rFloor_cg hq, rAt_cg hq, hown, htl, hrn1, hrn2, hrn3, hrn4]
    exact h σ2 r2
  obtain ⟨o, ho, rfl⟩ := in_of (by omega) hi
  have hOB := hI.2.1.2.2.1 o ho
  by_cases hn : 1 ≤ r ∧ r ≤ 99999
  rotate_left
  · refine RO_p2 (by decide) hI (fun Rt h => X_back_b hd hI ho hn h) (fun σ1 hI1 hq rr Rt h => ?_)
    have rr89 : gI σ1 89 = gI σ 89 := rr 89 (by omega)
    have rr91 : gI σ1 91 = gI σ 91 := rr 91 (by omega)
    have rr94 : gI σ1 94 = gI σ 94 := rr 94 (by omega)
    have rr95 : gI σ1 95 = gI σ 95 := rr 95 (by omega)
    have rr96 : gI σ1 96 = gI σ 96 := rr 96 (by omega)
    have rr97 : gI σ1 97 = gI σ 97 := rr 97 (by omega)
    have rr98 : gI σ1 98 = gI σ 98 := rr 98 (by omega)
    have rr99 : gI σ1 99 = gI σ 99 := rr 99 (by omega)
    have rr100 : gI σ1 100 = gI σ 100 := rr 100 (by omega)
    have rr103 : gI σ1 103 = gI σ 103 := rr 103 (by omega)
    have rr104 : gI σ1 104 = gI σ 104 := rr 104 (by omega)
    have rr105 : gI σ1 105 = gI σ 105 := rr 105 (by omega)
    have hown : ∀ o p net, rOwn σ1 o p net = rOwn σ o p net := fun o p net => congrFun (rOwn_cg (p := p) (net := net) hq) o
    have htl : ∀ t net wk, rTl σ1 t net wk = rTl σ t net wk := fun t net wk => rTl_cg rr91
    have hrn : ∀ net k, RQ (runS σ1 net np no k) (runS σ net np no k) := fun net k => runS_cg (RQ_00 hq) hI.2.1.2.1.1.2.2 k
    have hrn1 : ∀ net k t o, rRest (runS σ1 net np no k) t o = rRest (runS σ net np no k) t o := fun net k t o => rRest_cg (hrn net k)
    have hrn2 : ∀ net k, gI (runS σ1 net np no k) 94 = gI (runS σ net np no k) 94 := fun net k => (hrn net k).2.1
    have hrn3 : ∀ net k, gI (runS σ1 net np no k) 95 = gI (runS σ net np no k) 95 := fun net k => (hrn net k).2.2.1
    have hrn4 : ∀ net k, anyO (runS σ1 net np no k) no = anyO (runS σ net np no k) no := fun net k => anyO_cg (hrn net k) no
    refine M_back_b hd hI1 ho hn (fun σ2 r2 => ?_)
    try simp only [rr91, rr94, rr95, rr96, rr97, rr98, rr99, rr100, rr103, rr104, rr105, rr89, rPay_cg hq, rIn_cg hq, rLive_cg hq, rRest_cg hq, rFloor_cg hq, rAt_cg hq, hown, htl, hrn1, hrn2, hrn3, hrn4]
    exact h σ2 r2
  by_cases hl : r ≤ gI σ 94 o
  · exact PA_back_t hd hI hc ho hn hl
  · refine RO_p2 (by decide) hI (fun Rt h => X_back_l hd hI ho hn hl h) (fun σ1 hI1 hq rr Rt h => ?_)
    have rr89 : gI σ1 89 = gI σ 89 := rr 89 (by omega)
    have rr91 : gI σ1 91 = gI σ 91 := rr 91 (by omega)
    have rr94 : gI σ1 94 = gI σ 94 := rr 94 (by omega)
    have rr95 : gI σ1 95 = gI σ 95 := rr 95 (by omega)
    have rr96 : gI σ1 96 = gI σ 96 := rr 96 (by omega)
    have rr97 : gI σ1 97 = gI σ 97 := rr 97 (by omega)
    have rr98 : gI σ1 98 = gI σ 98 := rr 98 (by omega)
    have rr99 : gI σ1 99 = gI σ 99 := rr 99 (by omega)
    have rr100 : gI σ1 100 = gI σ 100 := rr 100 (by omega)
    have rr103 : gI σ1 103 = gI σ 103 := rr 103 (by omega)
    have rr104 : gI σ1 104 = gI σ 104 := rr 104 (by omega)
    have rr105 : gI σ1 105 = gI σ 105 := rr 105 (by omega)
    have hown : ∀ o p net, rOwn σ1 o p net = rOwn σ o p net := fun o p net => congrFun (rOwn_cg (p := p) (net := net) hq) o
    have htl : ∀ t net wk, rTl σ1 t net wk = rTl σ t net wk := fun t net wk => rTl_cg rr91
    have hrn : ∀ net k, RQ (runS σ1 net np no k) (runS σ net np no k) := fun net k => runS_cg (RQ_00 hq) hI.2.1.2.1.1.2.2 k
    have hrn1 : ∀ net k t o, rRest (runS σ1 net np no k) t o = rRest (runS σ net np no k) t o := fun net k t o => rRest_cg (hrn net k)
    have hrn2 : ∀ net k, gI (runS σ1 net np no k) 94 = gI (runS σ net np no k) 94 := fun net k => (hrn net k).2.1
    have hrn3 : ∀ net k, gI (runS σ1 net np no k) 95 = gI (runS σ net np no k) 95 := fun net k => (hrn net k).2.2.1
    have hrn4 : ∀ net k, anyO (runS σ1 net np no k) no = anyO (runS σ net np no k) no := fun net k => anyO_cg (hrn net k) no
    have hl' := hl
    try simp only [← rr91, ← rr94, ← rr95, ← rr96, ← rr100, ← rLive_cg hq, ← rRest_cg hq, ← rIn_cg hq] at hl'
    refine M_back_l hd hI1 ho hn hl' (fun σ2 r2 => ?_)
    try simp only [rr91, rr94, rr95, rr96, rr97, rr98, rr99, rr100, rr103, rr104, rr105, rr89, rPay_cg hq, rIn_cg hq, rLive_cg hq, rRest_cg hq, rFloor_cg hq, rAt_cg hq, hown, htl, hrn1, hrn2, hrn3, hrn4]
    exact h σ2 r2
theorem PC_forgive (hd : 14 ≤ d) (hI : InvB σ b b' nt np no K nx T (999999 * c)) (hc : c ≤ 512) : Pair d q_X9_forgive q_X10_forgive [.ref 0, .int i] [.ref 89, .int i] σ (fun σ2 => INV σ2 (c + 1)) := by
  have hb1 := hI.2.1.2.1.1
  have hB : (999999 * (c : Int)) ≤ 1000000000 := by omega
  by_cases hi : 0 ≤ i ∧ i < nI no
  rotate_left
  · refine RO_p2 (by decide) hI (fun Rt h => X_forgive_n hd hI hi h) (fun σ1 hI1 hq rr Rt h => ?_)
    have rr89 : gI σ1 89 = gI σ 89 := rr 89 (by omega)
    have rr91 : gI σ1 91 = gI σ 91 := rr 91 (by omega)
    have rr94 : gI σ1 94 = gI σ 94 := rr 94 (by omega)
    have rr95 : gI σ1 95 = gI σ 95 := rr 95 (by omega)
    have rr96 : gI σ1 96 = gI σ 96 := rr 96 (by omega)
    have rr97 : gI σ1 97 = gI σ 97 := rr 97 (by omega)
    have rr98 : gI σ1 98 = gI σ 98 := rr 98 (by omega)
    have rr99 : gI σ1 99 = gI σ 99 := rr 99 (by omega)
    have rr100 : gI σ1 100 = gI σ 100 := rr 100 (by omega)
    have rr103 : gI σ1 103 = gI σ 103 := rr 103 (by omega)
    have rr104 : gI σ1 104 = gI σ 104 := rr 104 (by omega)
    have rr105 : gI σ1 105 = gI σ 105 := rr 105 (by omega)
    have hown : ∀ o p net, rOwn σ1 o p net = rOwn σ o p net := fun o p net => congrFun (rOwn_cg (p := p) (net := net) hq) o
    have htl : ∀ t net wk, rTl σ1 t net wk = rTl σ t net wk := fun t net wk => rTl_cg rr91
    have hrn : ∀ net k, RQ (runS σ1 net np no k) (runS σ net np no k) := fun net k => runS_cg (RQ_00 hq) hI.2.1.2.1.1.2.2 k
    have hrn1 : ∀ net k t o, rRest (runS σ1 net np no k) t o = rRest (runS σ net np no k) t o := fun net k t o => rRest_cg (hrn net k)
    have hrn2 : ∀ net k, gI (runS σ1 net np no k) 94 = gI (runS σ net np no k) 94 := fun net k => (hrn net k).2.1
    have hrn3 : ∀ net k, gI (runS σ1 net np no k) 95 = gI (runS σ net np no k) 95 := fun net k => (hrn net k).2.2.1
    have hrn4 : ∀ net k, anyO (runS σ1 net np no k) no = anyO (runS σ net np no k) no := fun net k => anyO_cg (hrn net k) no
    refine M_forgive_n hd hI1 hi (fun σ2 r2 => ?_)
    try simp only [rr91, rr94, rr95, rr96, rr97, rr98, rr99, rr100, rr103, rr104, rr105, rr89, rPay_cg hq, rIn_cg hq, rLive_cg hq, rRest_cg hq, rFloor_cg hq, rAt_cg hq, hown, htl, hrn1, hrn2, hrn3, hrn4]
    exact h σ2 r2
  obtain ⟨o, ho, rfl⟩ := in_of (by omega) hi
  have hOB := hI.2.1.2.2.1 o ho
  exact PA_forgive_t hd hI hc ho
end PAIRS
