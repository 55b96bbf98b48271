/-! what a pay of the reference leaves -/
section AFTER
variable {n : Nat} {W : Nat → Int32} {s : (Nat → Int32) × Int32} {fl : Int32} {M : Nat → Bool} {O : Nat → Int32} {j : Nat}
theorem evs_at (hj : n ≤ j) : ∀ (k : Nat) (s : (Nat → Int32) × Int32), (evs M O W fl n k s).1 j = s.1 j
  | 0, _ => rfl
  | k + 1, s => by
    rw [evs]
    split
    · rw [evs_at hj k]
      exact pass_at n j hj
    · rfl
theorem poolF_at {ev : Bool} {k : Nat} (hj : n ≤ j) : (poolF ev k M O W fl n s).1 j = s.1 j := by
  unfold poolF
  split
  · rfl
  · split
    · exact pass_at n j hj
    · unfold onF
      rw [pass_at n j hj]
      split
      · exact evs_at hj k s
      · exact pass_at n j hj
theorem flF_at {ev : Bool} {k : Nat} (hj : n ≤ j) : ∀ (K : Nat) (fl : Int32) (s : (Nat → Int32) × Int32), (flF ev k M O W n K fl s).1 j = s.1 j
  | 0, _, _ => rfl
  | K + 1, fl, s => by
    rw [flF]
    split
    · rfl
    · rw [flF_at hj K, poolF_at hj]
end AFTER
/-- a pay of the reference: what is owed then, what was taken then -/
def owF (σ : St) (t p n : Nat) (W G : Nat → Int32) : Nat → Int32 := uF (gI σ 95) t (fun o => if rIn σ t p o then (if gI σ 91 (69 + o) = 0 then gI σ 95 (t + o) - G o else W o - G o) else gI σ 95 (t + o)) n
def tkF (σ : St) (t n : Nat) (G : Nat → Int32) : Nat → Int32 := uF (gI σ 94) t (fun o => gI σ 94 (t + o) + G o) n
def pyS (σ : St) (t p : Nat) (net : Int32) (n : Nat) : St := wr2 (wrG (wrW σ (rPay σ t p net 7 7 n 9).1) (rPay σ t p net 7 7 n 9).2.1 (rPay σ t p net 7 7 n 9).2.2) (owF σ t p n (rPay σ t p net 7 7 n 9).1 (rPay σ t p net 7 7 n 9).2.1) (tkF σ t n (rPay σ t p net 7 7 n 9).2.1)
def wkS (σ : St) (t n : Nat) : St := wr2 σ (wkF σ t n) (gI σ 94)
/-- a week of a run: the payers before the p-th -/
def rnS (σ : St) (wk net : Int32) (n : Nat) : Nat → St
  | 0 => wkS σ 6 n
  | p + 1 => if wk - wk / gI σ 91 (48 + p) * gI σ 91 (48 + p) = 0 then pyS (rnS σ wk net n p) 6 p net n else rnS σ wk net n p
/-- the first k weeks of a run -/
def runS (σ : St) (net : Int32) (np n : Nat) : Nat → St
  | 0 => wr2 σ (uF (gI σ 95) 6 (gI σ 95) 6) (uF (gI σ 94) 6 (gI σ 94) 6)
  | k + 1 => rnS (runS σ net np n k) (nI (k + 1)) net n np
/-- all that runs keep -/
def RJ (σ : St) (nt np no t : Nat) (B : Int) : Prop := RefAt σ ∧ DskR σ nt np no ∧ (∀ o, o < no → OrdB σ nt t o B) ∧ ∀ j, 6 ≤ j → gI σ 101 j = 0 ∧ gI σ 102 j = 0
section RJS
variable {σ σ1 : St} {t p o nt np no n j : Nat} {net wk : Int32} {B : Int} {A1 B1 : Nat → Int32}
theorem uF_in {f g : Nat → Int32} : ∀ n o, o < n → uF f t g n (t + o) = g o
  | 0, o, h => absurd h (Nat.not_lt_zero o)
  | n + 1, o, h => by
    show upd (uF f t g n) (t + n) (g n) (t + o) = g o
    by_cases ho : o = n
    · subst ho; exact pk_us
    · rw [pk_un (by omega)]
      exact uF_in n o (by omega)
theorem uF_out {f g : Nat → Int32} {j : Nat} : ∀ n, (j < t ∨ t + n ≤ j) → uF f t g n j = f j
  | 0, _ => rfl
  | n + 1, h => by
    show upd (uF f t g n) (t + n) (g n) j = f j
    rw [pk_un (by omega)]
    exact uF_out n (by omega)
theorem wkF_in : ∀ n o, o < n → wkF σ t n (t + o) = if gI σ 91 (69 + o) = 0 ∧ rLive σ t o = true then leI (rRest σ t o) (gI σ 95 (t + o) + gI σ 91 (75 + o)) else gI σ 95 (t + o)
  | 0, o, h => absurd h (Nat.not_lt_zero o)
  | n + 1, o, h => by
    rw [wkF]
    by_cases ho : o = n
    · subst ho
      split
      · exact pk_us
      · exact wkF_at o (t + o) (Nat.le_refl _)
    · have ih := wkF_in n o (by omega)
      split
      · rw [pk_un (by omega)]; exact ih
      · exact ih
theorem wkF_out {j : Nat} : ∀ n, (j < t ∨ t + n ≤ j) → wkF σ t n j = gI σ 95 j
  | 0, _ => rfl
  | n + 1, h => by
    rw [wkF]
    split
    · rw [pk_un (by omega)]
      exact wkF_out n (by omega)
    · exact wkF_out n (by omega)
theorem DskR_row (h : gI σ1 91 = gI σ 91) (hD : DskR σ nt np no) : DskR σ1 nt np no := by
  unfold DskR TabOK at hD ⊢
  rw [h]
  exact hD
theorem RefAt_R (h : gR σ1 = gR σ) (hN : gN σ1 = gN σ) (hR : RefAt σ) : RefAt σ1 := by
  unfold RefAt at hR ⊢
  rw [h, hN]
  exact hR
theorem rPay_hi (hn : n ≤ 6) (h0 : ∀ j, 6 ≤ j → gI σ 101 j = 0 ∧ gI σ 102 j = 0) : ∀ i j, 6 ≤ j → (rPay σ t p net 7 7 n i).1 j = 0 ∧ (rPay σ t p net 7 7 n i).2.1 j = 0
  | 0, j, hj => by
    unfold rPay rkF
    show zrF _ 6 j = 0 ∧ zrF _ 6 j = 0
    rw [zrF_at, zrF_at, if_neg (by omega), if_neg (by omega)]
    exact h0 j hj
  | i + 1, j, hj => by
    have ih := rPay_hi hn h0 i j hj
    show wtF _ _ n _ j = 0 ∧ (flF _ _ _ _ _ _ _ _ _).1 j = 0
    rw [wtF_at, if_neg (by omega), flF_at (by omega)]
    exact ih
theorem wkS_J (h : RJ σ nt np no t B) : RJ (wkS σ t no) nt np no t B := by
  obtain ⟨hR, hD, hO, hZ⟩ := h
  refine ⟨hR, DskR_row rfl hD, fun o ho => ?_, hZ⟩
  have hr := rest_rng (hO o ho)
  obtain ⟨a1, a2, a3, a4, a5, a6, a7, a8⟩ := hO o ho
  refine ⟨a1, a2, a3, a4, a5, a6, a7, ?_⟩
  show 0 ≤ (wkF σ t no (t + o)).toInt ∧ (wkF σ t no (t + o)).toInt ≤ (rRest σ t o).toInt
  rw [wkF_in no o ho]
  by_cases hc : gI σ 91 (69 + o) = 0 ∧ rLive σ t o = true
  · rw [if_pos hc]
    have hk : 1 ≤ (gI σ 91 (75 + o)).toInt ∧ (gI σ 91 (75 + o)).toInt ≤ 999 := by
      rcases a4 with h | h | h
      · exact h.2
      · exact absurd (h.1.symm.trans hc.1) (by decide)
      · exact absurd (h.1.symm.trans hc.1) (by decide)
    have e : (gI σ 95 (t + o) + gI σ 91 (75 + o)).toInt = (gI σ 95 (t + o)).toInt + (gI σ 91 (75 + o)).toInt := fb_addI (by omega) (by omega)
    rw [leI_T, e]
    split <;> omega
  · rw [if_neg hc]
    exact a8
theorem RJ_R (h : RJ σ nt np no t B) (hp : p < np) (hn : 0 ≤ net.toInt ∧ net.toInt ≤ 9999) : PayR σ t p no net := PayR_of h.2.1 h.2.2.1 hp hn h.2.2.2
/-- what was wanted and got -/
theorem pay_rng (h : RJ σ nt np no t B) (hp : p < np) (hn : 0 ≤ net.toInt ∧ net.toInt ≤ 9999) (ho : o < no) :
    0 ≤ ((rPay σ t p net 7 7 no 9).2.1 o).toInt ∧ ((rPay σ t p net 7 7 no 9).2.1 o).toInt ≤ ((rPay σ t p net 7 7 no 9).1 o).toInt ∧ ((rPay σ t p net 7 7 no 9).1 o).toInt ≤ (rRest σ t o).toInt ∧ (gI σ 91 (69 + o) = 0 → ((rPay σ t p net 7 7 no 9).1 o).toInt ≤ (gI σ 95 (t + o)).toInt) ∧ (rIn σ t p o = false → (rPay σ t p net 7 7 no 9).1 o = 0 ∧ (rPay σ t p net 7 7 no 9).2.1 o = 0) := by
  obtain ⟨⟨hPI, hz⟩, _⟩ := pay_ref (RJ_R h hp hn) 9 (Nat.le_refl 9)
  have h1 := hPI.1 o ho
  have h2 := hz o ho
  have hr := rest_rng (h.2.2.1 o ho)
  have hO := (h.2.2.1 o ho).2.2.2.2.2.2.2
  have hw : ((rPay σ t p net 7 7 no 9).1 o).toInt ≤ (rRest σ t o).toInt ∧ (gI σ 91 (69 + o) = 0 → ((rPay σ t p net 7 7 no 9).1 o).toInt ≤ (gI σ 95 (t + o)).toInt) := by
    rcases h2.2 with h3 | ⟨L, l1, l2, h3⟩
    · rw [h3, iT0]
      exact ⟨hr.1, fun _ => hO.1⟩
    · rw [h3]
      exact (want_rng h.2.1 (h.2.2.1 o ho) hp hn ⟨l1, l2⟩).2
  exact ⟨h1.1, h1.2.1, hw.1, hw.2, fun z => h2.1 (Or.inl z)⟩
theorem pyS_J (h : RJ σ nt np no t B) (hB : B ≤ 2000000000) (hp : p < np) (hn : 0 ≤ net.toInt ∧ net.toInt ≤ 9999) : RJ (pyS σ t p net no) nt np no t (B + 999999) := by
  have h' := h
  obtain ⟨hR, hD, hO, hZ⟩ := h
  refine ⟨hR, DskR_row rfl hD, fun o ho => ?_, fun j hj => rPay_hi hD.1.2.2 hZ 9 j hj⟩
  have hr := rest_rng (hO o ho)
  obtain ⟨g1, g2, g3, g4, g5⟩ := pay_rng h' hp hn ho
  obtain ⟨a1, a2, a3, a4, a5, a6, a7, a8⟩ := hO o ho
  have eT : gI (pyS σ t p net no) 94 (t + o) = gI σ 94 (t + o) + (rPay σ t p net 7 7 no 9).2.1 o := uF_in no o ho
  have eO : gI (pyS σ t p net no) 95 (t + o) = if rIn σ t p o then (if gI σ 91 (69 + o) = 0 then gI σ 95 (t + o) - (rPay σ t p net 7 7 no 9).2.1 o else (rPay σ t p net 7 7 no 9).1 o - (rPay σ t p net 7 7 no 9).2.1 o) else gI σ 95 (t + o) := uF_in no o ho
  have eTT : (gI σ 94 (t + o) + (rPay σ t p net 7 7 no 9).2.1 o).toInt = (gI σ 94 (t + o)).toInt + ((rPay σ t p net 7 7 no 9).2.1 o).toInt := fb_addI (by omega) (by omega)
  have eR : (rRest (pyS σ t p net no) t o).toInt = if gI σ 91 (63 + o) = 0 then 999999 else (gI σ 91 (63 + o)).toInt - (gI σ 94 (t + o)).toInt - ((rPay σ t p net 7 7 no 9).2.1 o).toInt := by
    unfold rRest
    rw [eT]
    show (if gI σ 91 (63 + o) = 0 then (999999 : Int32) else gI σ 91 (63 + o) - _).toInt = _
    by_cases hz : gI σ 91 (63 + o) = 0
    · rw [if_pos hz, if_pos hz]; rfl
    · have := a7 hz
      have hr2 : (rRest σ t o).toInt = (gI σ 91 (63 + o)).toInt - (gI σ 94 (t + o)).toInt := by
        unfold rRest
        rw [if_neg hz]
        exact fb_subI (by omega) (by omega)
      rw [if_neg hz, if_neg hz, fb_subI (by omega) (by omega), eTT]
      omega
  have eR0 : (rRest σ t o).toInt = if gI σ 91 (63 + o) = 0 then 999999 else (gI σ 91 (63 + o)).toInt - (gI σ 94 (t + o)).toInt := by
    unfold rRest
    by_cases hz : gI σ 91 (63 + o) = 0
    · rw [if_pos hz, if_pos hz]; rfl
    · have := a7 hz
      rw [if_neg hz, if_neg hz]
      exact fb_subI (by omega) (by omega)
  refine ⟨a1, a2, a3, a4, a5, ?_, fun hz => ?_, ?_⟩
  · rw [eT, eTT]
    omega
  · have hz : ¬ gI σ 91 (63 + o) = 0 := hz
    rw [if_neg hz] at eR0
    rw [eT, eTT]
    show _ ≤ (gI σ 91 (63 + o)).toInt
    omega
  · rw [eO, eR]
    have hle : ((rPay σ t p net 7 7 no 9).2.1 o).toInt ≤ (rRest σ t o).toInt := by omega
    cases hin : rIn σ t p o
    · have := g5 hin
      rw [if_neg (by decide), this.2, iT0]
      by_cases hz : gI σ 91 (63 + o) = 0
      · rw [if_pos hz] at eR0 ⊢
        omega
      · rw [if_neg hz] at eR0 ⊢
        omega
    · rw [if_pos rfl]
      by_cases hk : gI σ 91 (69 + o) = 0
      · have := g4 hk
        rw [if_pos hk, fb_subI (by omega) (by omega)]
        by_cases hz : gI σ 91 (63 + o) = 0
        · rw [if_pos hz] at eR0 ⊢
          omega
        · rw [if_neg hz] at eR0 ⊢
          omega
      · rw [if_neg hk, fb_subI (by omega) (by omega)]
        by_cases hz : gI σ 91 (63 + o) = 0
        · rw [if_pos hz] at eR0 ⊢
          omega
        · rw [if_neg hz] at eR0 ⊢
          omega
theorem RJ_mono {B' : Int} (h : RJ σ nt np no t B) (hB : B ≤ B') : RJ σ nt np no t B' := by
  refine ⟨h.1, h.2.1, fun o ho => ?_, h.2.2.2⟩
  obtain ⟨a1, a2, a3, a4, a5, a6, a7, a8⟩ := h.2.2.1 o ho
  exact ⟨a1, a2, a3, a4, a5, by omega, a7, a8⟩
theorem gR_rnS : ∀ p, gR (rnS σ wk net n p) = gR σ ∧ gN (rnS σ wk net n p) = gN σ ∧ gL (rnS σ wk net n p) = gL σ ∧ gI (rnS σ wk net n p) 91 = gI σ 91
  | 0 => ⟨rfl, rfl, rfl, rfl⟩
  | p + 1 => by
    have ih := gR_rnS p
    rw [rnS]
    split
    · exact ⟨ih.1, ih.2.1, ih.2.2.1, ih.2.2.2⟩
    · exact ih
theorem rnS_J (h : RJ σ nt np no 6 B) (hB : B ≤ 1990000000) (hn : 0 ≤ net.toInt ∧ net.toInt ≤ 9999) : ∀ p, p ≤ np → RJ (rnS σ wk net no p) nt np no 6 (B + 999999 * p)
  | 0, _ => by
    rw [rnS]
    exact RJ_mono (wkS_J h) (by omega)
  | p + 1, hp => by
    have ih := rnS_J h hB hn p (by omega)
    have hnp := h.2.1.1.2.1
    rw [rnS]
    split
    · exact RJ_mono (pyS_J ih (by omega) (by omega) hn) (by omega)
    · exact RJ_mono ih (by omega)
theorem tries_J (h : RJ σ nt np no 0 B) : RJ (runS σ net np n 0) nt np no 6 B := by
  obtain ⟨hR, hD, hO, hZ⟩ := h
  have hno := hD.1.2.2
  refine ⟨hR, DskR_row rfl hD, fun o ho => ?_, hZ⟩
  obtain ⟨a1, a2, a3, a4, a5, a6, a7, a8⟩ := hO o ho
  have eT : gI (runS σ net np n 0) 94 (6 + o) = gI σ 94 o := uF_in 6 o (by omega)
  have eO : gI (runS σ net np n 0) 95 (6 + o) = gI σ 95 o := uF_in 6 o (by omega)
  rw [Nat.zero_add] at a6 a7 a8
  have eR : rRest (runS σ net np n 0) 6 o = rRest σ 0 o := by
    unfold rRest
    rw [eT, Nat.zero_add]
    rfl
  refine ⟨a1, a2, a3, a4, a5, ?_, ?_, ?_⟩
  · rw [eT]; exact a6
  · rw [eT]; exact a7
  · rw [eO, eR]; exact a8
theorem runS_J (h : RJ σ nt np no 0 B) (hB : B ≤ 1000000000) (hn : 0 ≤ net.toInt ∧ net.toInt ≤ 9999) : ∀ k, k ≤ 200 → RJ (runS σ net np no k) nt np no 6 (B + 3000000 * k)
  | 0, _ => RJ_mono (tries_J h) (by omega)
  | k + 1, hk => by
    have ih := runS_J h hB hn k (by omega)
    have hnp := h.2.1.1.2.1
    rw [runS]
    exact RJ_mono (rnS_J ih (by omega) hn np (Nat.le_refl np)) (by omega)
end RJS
