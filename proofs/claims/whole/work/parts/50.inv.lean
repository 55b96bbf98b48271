/-! what class and reference have alike -/
/-- orders at ob (class) and at t (reference) -/
def OrdEq (σ τ : St) (ob t no : Nat) : Prop := ∀ o, o < no → (∀ j, j < 6 → gI σ (ob + o) j = gI τ 91 (51 + 6 * j + o)) ∧ gI σ (ob + o) 6 = gI τ 100 o ∧ gI σ (ob + o) 7 = gI τ 94 (t + o) ∧ gI σ (ob + o) 8 = gI τ 95 (t + o)
/-- the desk of the reference: how many tables, payers, orders; what its numbers may be -/
def DskR (τ : St) (nt np no : Nat) : Prop :=
  (nt ≤ 3 ∧ np ≤ 3 ∧ no ≤ 6) ∧ (gI τ 91 3 = nI nt ∧ gI τ 91 4 = nI np ∧ gI τ 91 5 = nI no) ∧
  (∀ t, t < nt → ∃ m, gI τ 91 (9 + t) = nI m ∧ TabOK τ t m ∧ (gI τ 91 (6 + t) = 0 ∨ gI τ 91 (6 + t) = 1)) ∧
  (0 ≤ (gI τ 91 0).toInt ∧ (gI τ 91 0).toInt ≤ 999) ∧ (0 ≤ (gI τ 91 1).toInt ∧ (gI τ 91 1).toInt ≤ 99) ∧ (gI τ 91 2 = 0 ∨ gI τ 91 2 = 1) ∧
  ∀ p, p < np → 1 ≤ (gI τ 91 (48 + p)).toInt ∧ (gI τ 91 (48 + p)).toInt ≤ 4
/-- the class's desk is the same -/
def DskC (σ τ : St) (b nt np no : Nat) : Prop :=
  (gI σ b 3 = nI nt ∧ gI σ b 4 = nI np ∧ gI σ b 5 = nI no) ∧ (gI σ b 6 = gI τ 91 0 ∧ gI σ b 7 = gI τ 91 1 ∧ gI σ b 8 = gI τ 91 2) ∧
  (∀ t, t < nt → gI σ (b + 4 + 3 * t) 2 = gI τ 91 (9 + t) ∧ gI σ (b + 4 + 3 * t) 3 = (if gI τ 91 (6 + t) = 1 then 0 else 1) ∧ ∀ m, m ≤ 6 → gI τ 91 (9 + t) = nI m → ∀ i, i < m → gI σ (b + 4 + 3 * t + 1) i = gI τ 91 (12 + 6 * t + i) ∧ gI σ (b + 4 + 3 * t + 2) i = gI τ 91 (30 + 6 * t + i)) ∧
  ∀ p, p < np → gI σ (b + 13 + p) 0 = gI τ 91 (48 + p)
/-- what an order of the reference may be -/
def OrdB (τ : St) (nt t o : Nat) (B : Int) : Prop :=
  (∃ j, 1 ≤ j ∧ j ≤ 9 ∧ gI τ 91 (51 + o) = nI j) ∧ (0 ≤ (gI τ 91 (57 + o)).toInt ∧ (gI τ 91 (57 + o)).toInt ≤ 999) ∧ (0 ≤ (gI τ 91 (63 + o)).toInt ∧ (gI τ 91 (63 + o)).toInt ≤ 99999) ∧
  (gI τ 91 (69 + o) = 0 ∧ 1 ≤ (gI τ 91 (75 + o)).toInt ∧ (gI τ 91 (75 + o)).toInt ≤ 999 ∨ gI τ 91 (69 + o) = 1 ∧ (∃ a, a < nt ∧ gI τ 91 (75 + o) = nI a) ∨ gI τ 91 (69 + o) = 2 ∧ 1 ≤ (gI τ 91 (75 + o)).toInt ∧ (gI τ 91 (75 + o)).toInt ≤ 99) ∧
  (gI τ 100 o = 0 ∨ gI τ 100 o = 1) ∧
  (0 ≤ (gI τ 94 (t + o)).toInt ∧ (gI τ 94 (t + o)).toInt ≤ B) ∧ (¬ gI τ 91 (63 + o) = 0 → (gI τ 94 (t + o)).toInt ≤ (gI τ 91 (63 + o)).toInt) ∧
  (0 ≤ (gI τ 95 (t + o)).toInt ∧ (gI τ 95 (t + o)).toInt ≤ (rRest τ t o).toInt)
section INV
variable {σ τ σ1 : St} {f b ob t p o nt np no : Nat} {net : Int32} {B : Int}
theorem rest_rng (h : OrdB τ nt t o B) : 0 ≤ (rRest τ t o).toInt ∧ (rRest τ t o).toInt ≤ 999999 := by
  obtain ⟨_, _, h3, _, _, h6, h7, _⟩ := h
  unfold rRest
  by_cases hz : gI τ 91 (63 + o) = 0
  · rw [if_pos hz]
    decide
  · have := h7 hz
    rw [if_neg hz, fb_subI (by omega) (by omega)]
    omega
theorem rFloor_rng (hD : DskR τ nt np no) (hp : p < np) (hn : 0 ≤ net.toInt ∧ net.toInt ≤ 9999) : 0 ≤ (rFloor τ p net).toInt ∧ (rFloor τ p net).toInt ≤ 9999 := by
  obtain ⟨_, _, _, h0, h1, _, hw⟩ := hD
  have hw := hw p hp
  unfold rFloor
  have a1 : (gI τ 91 0).toInt * (gI τ 91 (48 + p)).toInt ≤ 999 * 4 := Int.mul_le_mul h0.2 hw.2 (by omega) (by omega)
  have a2 : 0 ≤ (gI τ 91 0).toInt * (gI τ 91 (48 + p)).toInt := Int.mul_nonneg h0.1 (by omega)
  have a3 : (gI τ 91 1).toInt * net.toInt ≤ 99 * 9999 := Int.mul_le_mul h1.2 hn.2 (by omega) (by omega)
  have a4 : 0 ≤ (gI τ 91 1).toInt * net.toInt := Int.mul_nonneg h1.1 hn.1
  have e1 : (gI τ 91 0 * gI τ 91 (48 + p)).toInt = (gI τ 91 0).toInt * (gI τ 91 (48 + p)).toInt := fb_mulI (by omega) (by omega)
  have e2 : (gI τ 91 1 * net).toInt = (gI τ 91 1).toInt * net.toInt := fb_mulI (by omega) (by omega)
  have h99 : (99 : Int32).toInt = 99 := rfl
  have h100 : (100 : Int32).toInt = 100 := rfl
  have e3 : (gI τ 91 1 * net + 99).toInt = (gI τ 91 1).toInt * net.toInt + 99 := by rw [fb_addI (by omega) (by omega), e2, h99]
  have e4 : ((gI τ 91 1 * net + 99) / 100).toInt = ((gI τ 91 1).toInt * net.toInt + 99) / 100 := by rw [iT_div (by omega) (by rw [h100]; omega), e3, h100]
  rw [grI_T, e1, e4]
  split <;> omega
theorem cFloor_eq (hC : DskC σ τ b nt np no) (hp : p < np) : cFloor σ b p net = rFloor τ p net := by
  obtain ⟨_, h3, _, h5⟩ := hC
  unfold cFloor rFloor
  rw [mm_max, h3.1, h3.2.1, h5 p hp]
theorem rOwn_rng (hD : DskR τ nt np no) (hO : OrdB τ nt t o B) (hp : p < np) (hn : 0 ≤ net.toInt ∧ net.toInt ≤ 9999) : 0 ≤ (rOwn τ o p net).toInt ∧ (rOwn τ o p net).toInt ≤ 9999 := by
  have hf := rFloor_rng hD hp hn
  obtain ⟨_, _, _, _, _, _, hw⟩ := hD
  have hw := hw p hp
  have hk := hO.2.1
  have a1 : (gI τ 91 (57 + o)).toInt * (gI τ 91 (48 + p)).toInt ≤ 999 * 4 := Int.mul_le_mul hk.2 hw.2 (by omega) (by omega)
  have a2 : 0 ≤ (gI τ 91 (57 + o)).toInt * (gI τ 91 (48 + p)).toInt := Int.mul_nonneg hk.1 (by omega)
  have e1 : (gI τ 91 (57 + o) * gI τ 91 (48 + p)).toInt = (gI τ 91 (57 + o)).toInt * (gI τ 91 (48 + p)).toInt := fb_mulI (by omega) (by omega)
  unfold rOwn
  rw [grI_T, e1]
  split <;> omega
theorem restF_eq (hE : OrdEq σ τ ob t no) (ho : o < no) : restF σ (ob + o) = rRest τ t o := by
  obtain ⟨h1, _, h7, _⟩ := hE o ho
  unfold restF rRest
  rw [h1 2 (by omega), h7]
theorem liveB_eq (hE : OrdEq σ τ ob t no) (ho : o < no) : liveB σ (ob + o) = rLive τ t o := by
  obtain ⟨_, h6, _⟩ := hE o ho
  unfold liveB rLive
  rw [restF_eq hE ho, h6]
theorem atB_eq (hE : OrdEq σ τ ob t no) (ho : o < no) {q : Int32} : atB σ (ob + o) q = rAt τ o q := by
  obtain ⟨h1, _⟩ := hE o ho
  unfold atB rAt
  rw [h1 5 (by omega)]
theorem pres_eq (hE : OrdEq σ τ ob t no) (ho : o < no) {q : Int32} : presF σ ob no q o = (rLive τ t o && rAt τ o q) := by
  unfold presF
  rw [decide_eq_true ho, liveB_eq hE ho, atB_eq hE ho, Bool.true_and, Bool.and_comm]
theorem want_rng (hD : DskR τ nt np no) (hB : OrdB τ nt t o B) (hp : p < np) (hn : 0 ≤ net.toInt ∧ net.toInt ≤ 9999) {L : Int32} (hl : -5999994 ≤ L.toInt ∧ L.toInt ≤ 9999) :
    0 ≤ (rWant τ t o p net L).toInt ∧ (rWant τ t o p net L).toInt ≤ (rRest τ t o).toInt ∧ (gI τ 91 (69 + o) = 0 → (rWant τ t o p net L).toInt ≤ (gI τ 95 (t + o)).toInt) := by
  have hr := rest_rng hB
  have hf := rFloor_rng hD hp hn
  obtain ⟨⟨n3, _, _⟩, _, hT, _, _, _, hw⟩ := hD
  have hwp := hw p hp
  obtain ⟨_, _, _, hk, _, _, _, hd⟩ := hB
  unfold rWant
  rcases hk with ⟨hk, ha1, ha2⟩ | ⟨hk, a, ha, hka⟩ | ⟨hk, ha1, ha2⟩
  · rw [hk, if_neg (by decide), if_neg (by decide), leI_T]
    refine ⟨?_, ?_, fun _ => ?_⟩ <;> split <;> omega
  · obtain ⟨m, m2, m3, _⟩ := hT a ha
    have hm6 := m3.1
    have hca : (nI a).toNatClampNeg = a := nI_clamp (by omega)
    have hcm : (nI m).toNatClampNeg = m := nI_clamp (by omega)
    have hx := rTab_rng (w := gI τ 91 (48 + p)) m3 hwp hn m (Nat.le_refl m)
    have ea : (gI τ 95 (t + o) + rTab τ a m net (gI τ 91 (48 + p)) m).toInt = (gI τ 95 (t + o)).toInt + (rTab τ a m net (gI τ 91 (48 + p)) m).toInt := fb_addI (by omega) (by omega)
    rw [hk, if_pos rfl, hka, hca, rTl, m2, hcm, leI_T, ea]
    refine ⟨?_, ?_, fun z => absurd z (by decide)⟩ <;> split <;> omega
  · have hs : (L - rFloor τ p net).toInt = L.toInt - (rFloor τ p net).toInt := fb_subI (by omega) (by omega)
    have hg : 0 ≤ (grI 0 (L - rFloor τ p net)).toInt ∧ (grI 0 (L - rFloor τ p net)).toInt ≤ 9999 := by
      rw [grI_T, hs, iT0]
      split <;> omega
    have h100 : (100 : Int32).toInt = 100 := rfl
    have a1 : (grI 0 (L - rFloor τ p net)).toInt * (gI τ 91 (75 + o)).toInt ≤ 9999 * 99 := Int.mul_le_mul hg.2 ha2 (by omega) (by omega)
    have a2 : 0 ≤ (grI 0 (L - rFloor τ p net)).toInt * (gI τ 91 (75 + o)).toInt := Int.mul_nonneg hg.1 (by omega)
    have em : (grI 0 (L - rFloor τ p net) * gI τ 91 (75 + o)).toInt = (grI 0 (L - rFloor τ p net)).toInt * (gI τ 91 (75 + o)).toInt := fb_mulI (by omega) (by omega)
    have ed : (grI 0 (L - rFloor τ p net) * gI τ 91 (75 + o) / 100).toInt = (grI 0 (L - rFloor τ p net)).toInt * (gI τ 91 (75 + o)).toInt / 100 := by rw [iT_div (by omega) (by rw [h100]; omega), em, h100]
    have ea : (gI τ 95 (t + o) + grI 0 (L - rFloor τ p net) * gI τ 91 (75 + o) / 100).toInt = (gI τ 95 (t + o)).toInt + (grI 0 (L - rFloor τ p net) * gI τ 91 (75 + o) / 100).toInt := fb_addI (by omega) (by omega)
    rw [hk, if_neg (by decide), if_pos rfl, leI_T, ea]
    refine ⟨?_, ?_, fun z => absurd z (by decide)⟩ <;> split <;> omega
theorem want_eq (hD : DskR τ nt np no) (hC : DskC σ τ b nt np no) (hE : OrdEq σ τ ob t no) (hB : OrdB τ nt t o B) (ho : o < no) (hp : p < np) {L : Int32} :
    cWant σ b ob net (gI σ (b + 13 + p) 0) (maxI (L - cFloor σ b p net) 0) o = rWant τ t o p net L := by
  have hfe := cFloor_eq (net := net) hC hp
  obtain ⟨⟨n3, _, _⟩, _, hT, _, _, _, hw⟩ := hD
  obtain ⟨_, _, hCT, h5⟩ := hC
  have hwp := hw p hp
  obtain ⟨e1, _, _, e8⟩ := hE o ho
  obtain ⟨_, _, _, hk, _, _, _, hd⟩ := hB
  have hrest := restF_eq hE ho
  unfold cWant rWant
  rw [hrest, mm_min, e1 3 (by omega), e1 4 (by omega), e8, mm_max, gr_comm, hfe, h5 p hp]
  show leI (if gI τ 91 (69 + o) = 1 then _ else if gI τ 91 (69 + o) = 2 then _ else _) _ = _
  rcases hk with ⟨hk, ha1, ha2⟩ | ⟨hk, a, ha, hka⟩ | ⟨hk, ha1, ha2⟩
  · rw [hk, if_neg (by decide), if_neg (by decide), if_neg (by decide), if_neg (by decide)]
  · obtain ⟨m, m2, m3, _⟩ := hT a ha
    obtain ⟨m1, m4, m5⟩ := hCT a ha
    have hm6 := m3.1
    have hca : (nI a).toNatClampNeg = a := nI_clamp (by omega)
    have hcm : (nI m).toNatClampNeg = m := nI_clamp (by omega)
    rw [hk, if_pos rfl, if_pos rfl, show gI τ 91 (51 + 6 * 4 + o) = nI a from hka, hca, m1, rTl, m2, hcm, tells_eq m3 hwp m4 (m5 m hm6 m2)]
  · rw [hk, if_neg (by decide), if_pos rfl, if_neg (by decide), if_pos rfl, show gI τ 91 (51 + 6 * 4 + o) = gI τ 91 (75 + o) from rfl, Int32.mul_comm (gI τ 91 (75 + o))]
/-- rows beyond their ends -/
def Z6 (σ τ : St) (f : Nat) : Prop := ∀ j, 6 ≤ j → gI σ (f + 2) j = 0 ∧ gI σ (f + 3) j = 0 ∧ gI τ 101 j = 0 ∧ gI τ 102 j = 0
theorem PayOK_of (hD : DskR τ nt np no) (hC : DskC σ τ b nt np no) (hE : OrdEq σ τ ob t no) (hB : ∀ o, o < no → OrdB τ nt t o B) (hp : p < np) (hn : 0 ≤ net.toInt ∧ net.toInt ≤ 9999) (hZ : Z6 σ τ f) : PayOK σ τ f b ob t p no net := by
  refine ⟨hD.1.2.2, fun o ho => pres_eq hE ho, fun o ho => ?_, ⟨hC.2.1.2.2, ?_⟩, fun o ho => ⟨?_, ?_⟩, fun o L ho _ l1 l2 => ⟨want_eq hD hC hE (hB o ho) ho hp, ?_⟩, hn, hZ⟩
  · obtain ⟨j, j1, j2, j3⟩ := (hB o ho).1
    refine ⟨j, j1, j2, ?_, j3⟩
    rw [(hE o ho).1 0 (by omega)]
    exact j3
  · rw [hC.2.1.2.2]
    exact hD.2.2.2.2.2.1
  · unfold cOwn rOwn
    rw [mm_max, cFloor_eq hC hp, (hE o ho).1 1 (by omega), hC.2.2.2 p hp]
  · have := rOwn_rng hD (hB o ho) hp hn
    omega
  · have h1 := want_rng hD (hB o ho) hp hn ⟨l1, l2⟩
    have h2 := rest_rng (hB o ho)
    omega
/-- the same of the reference alone -/
def PayR (τ : St) (t p n : Nat) (net : Int32) : Prop :=
  n ≤ 6 ∧ (∀ o, o < n → ∃ j, 1 ≤ j ∧ j ≤ 9 ∧ gI τ 91 (51 + o) = nI j) ∧ (gI τ 91 2 = 0 ∨ gI τ 91 2 = 1) ∧ (∀ o, o < n → 0 ≤ (rOwn τ o p net).toInt ∧ (rOwn τ o p net).toInt ≤ 100000) ∧
  (∀ o L, o < n → -5999994 ≤ L.toInt → L.toInt ≤ 9999 → 0 ≤ (rWant τ t o p net L).toInt ∧ (rWant τ t o p net L).toInt ≤ 999999) ∧ (0 ≤ net.toInt ∧ net.toInt ≤ 9999) ∧ ∀ j, 6 ≤ j → gI τ 101 j = 0 ∧ gI τ 102 j = 0
theorem PayR_of (hD : DskR τ nt np no) (hB : ∀ o, o < no → OrdB τ nt t o B) (hp : p < np) (hn : 0 ≤ net.toInt ∧ net.toInt ≤ 9999) (hZ : ∀ j, 6 ≤ j → gI τ 101 j = 0 ∧ gI τ 102 j = 0) : PayR τ t p no net := by
  refine ⟨hD.1.2.2, fun o ho => (hB o ho).1, hD.2.2.2.2.2.1, fun o ho => ?_, fun o L ho l1 l2 => ?_, hn, hZ⟩
  · have := rOwn_rng hD (hB o ho) hp hn
    omega
  · have h1 := want_rng hD (hB o ho) hp hn ⟨l1, l2⟩
    have h2 := rest_rng (hB o ho)
    omega
/-- who is in a pay -/
def rIn (τ : St) (t p o : Nat) : Bool := rLive τ t o && rAt τ o (nI p)
theorem pay_ref {n : Nat} (h : PayR τ t p n net) : ∀ i, i ≤ 9 → PayJ τ t p n net (rIn τ t p) i (rPay τ t p net 7 7 n i) ∧ ∀ i', i' < i → rkOK τ t p net 7 7 n (nI (i' + 1)) (rPay τ t p net 7 7 n i')
  | 0, _ => by
    obtain ⟨hn, hrk, hev, hO, hW, hnet, h0⟩ := h
    have e3 : zrF (gI τ 101) 6 = fun _ => 0 := funext fun j => by rw [zrF_at]; split; rfl; exact (h0 j (by omega)).1
    have e4 : zrF (gI τ 102) 6 = fun _ => 0 := funext fun j => by rw [zrF_at]; split; rfl; exact (h0 j (by omega)).2
    refine ⟨?_, fun i' hi => absurd hi (Nat.not_lt_zero i')⟩
    unfold rPay rkF
    rw [e3, e4]
    refine ⟨⟨fun o ho => ?_, ?_, hn, hnet.1, hnet.2⟩, fun o ho => ⟨fun _ => ⟨rfl, rfl⟩, Or.inl rfl⟩⟩
    · show 0 ≤ (0 : Int32).toInt ∧ (0 : Int32).toInt ≤ (0 : Int32).toInt ∧ (0 : Int32).toInt ≤ 999999
      rw [iT0]
      omega
    · show net.toInt = net.toInt - siI (fun _ => (0 : Int32).toInt) n
      have : ∀ m, siI (fun _ => (0 : Int32).toInt) m = 0 := by
        intro m
        induction m with
        | zero => rfl
        | succ m ih => rw [siI, ih, iT0]; rfl
      rw [this]
      omega
  | i + 1, hi => by
    obtain ⟨⟨hPI, hz⟩, ih2⟩ := pay_ref h i (by omega)
    obtain ⟨hn, hrk, hev, hO, hW, hnet, h0⟩ := h
    have hMp : ∀ o, o < n → rMem τ t p (nI (i + 1)) o = true → rIn τ t p o = true ∧ gI τ 91 (51 + o) = nI (i + 1) := by
      intro o ho hm
      unfold rMem at hm
      rw [Bool.and_eq_true, decide_eq_true_eq] at hm
      exact hm
    have hl := hPI.left
    have hG : ∀ o, o < n → rMem τ t p (nI (i + 1)) o = true → (rPay τ t p net 7 7 n i).2.1 o = 0 := by
      intro o ho hm
      exact ((hz o ho).1 (Or.inr ⟨i + 1, by omega, hi, (hMp o ho hm).2⟩)).2
    have key := rk_eq (ev := gI τ 91 2) (M := rMem τ t p (nI (i + 1))) (O := fun o => rOwn τ o p net) (O' := fun o => rOwn τ o p net) (wt := fun o => rWant τ t o p net (rPay τ t p net 7 7 n i).2.2) (s := (rPay τ t p net 7 7 n i).2) hPI hG (fun o ho _ => hW o _ ho hl.1 hl.2) (fun _ _ _ => rfl) (fun o ho _ => hO o ho) hev
    have hR : rPay τ t p net 7 7 n (i + 1) = rkS τ t p net 7 7 n (nI (i + 1)) (rPay τ t p net 7 7 n i) := rfl
    refine ⟨?_, fun i' hi' => ?_⟩
    · rw [hR]
      refine ⟨key.2.2, fun o ho => ⟨fun hc => ?_, ?_⟩⟩
      · have hnm : rMem τ t p (nI (i + 1)) o = false := by
          cases hm : rMem τ t p (nI (i + 1)) o
          · rfl
          · have := hMp o ho hm
            rcases hc with hc | ⟨j, j1, j2, j3⟩
            · exact absurd (this.1.symm.trans hc) (by decide)
            · rw [this.2, nI_inj (by omega) (by omega)] at j3
              omega
        have hold := (hz o ho).1 (hc.elim Or.inl (fun ⟨j, j1, j2, j3⟩ => Or.inr ⟨j, by omega, j2, j3⟩))
        unfold rkS
        refine ⟨?_, ?_⟩
        · show wtF _ _ n _ o = 0
          rw [wtF_at, if_neg (fun z => absurd (z.2.symm.trans hnm) (by decide))]
          exact hold.1
        · show (flF _ _ _ _ _ _ _ _ _).1 o = 0
          rw [flF_M hnm]
          exact hold.2
      · unfold rkS
        show wtF _ _ n _ o = 0 ∨ ∃ L : Int32, _ ∧ _ ∧ wtF _ _ n _ o = _
        rw [wtF_at]
        by_cases hm : o < n ∧ rMem τ t p (nI (i + 1)) o = true
        · rw [if_pos hm]
          exact Or.inr ⟨_, hl.1, hl.2, rfl⟩
        · rw [if_neg hm]
          exact (hz o ho).2
    · by_cases hii : i' = i
      · subst hii
        exact key.2.1
      · exact ih2 i' (by omega)
end INV
