/-! a pay: class and reference -/
theorem fa_and (a b : Nat) : nI a &&& nI b = nI (a &&& b) := by
  apply Int32.toBitVec_inj.1
  apply BitVec.eq_of_toNat_eq
  show (BitVec.ofNat 32 a &&& BitVec.ofNat 32 b).toNat = (BitVec.ofNat 32 (a &&& b)).toNat
  rw [BitVec.toNat_and, BitVec.toNat_ofNat, BitVec.toNat_ofNat, BitVec.toNat_ofNat, Nat.and_mod_two_pow]
theorem fa_or (a b : Nat) : nI a ||| nI b = nI (a ||| b) := by
  apply Int32.toBitVec_inj.1
  apply BitVec.eq_of_toNat_eq
  show (BitVec.ofNat 32 a ||| BitVec.ofNat 32 b).toNat = (BitVec.ofNat 32 (a ||| b)).toNat
  rw [BitVec.toNat_or, BitVec.toNat_ofNat, BitVec.toNat_ofNat, BitVec.toNat_ofNat, Nat.or_mod_two_pow]
theorem nI_inj {a b : Nat} (ha : a < 2 ^ 31) (hb : b < 2 ^ 31) : nI a = nI b ↔ a = b := by
  constructor
  · intro h
    have := congrArg Int32.toInt h
    rw [nI_toInt ha, nI_toInt hb] at this
    omega
  · intro h
    rw [h]
theorem sh_sm : ∀ i, i < 10 → ((nI i &&& 31).toBitVec.smod 32).toNat = i := by decide +kernel
theorem one_shl : ∀ j, j < 10 → (1 : Int32) <<< (nI j &&& 31) = nI (2 ^ j) := by decide +kernel
theorem bit_nI {m i : Nat} (hm : m < 1024) (hi : i < 10) : (nI m >>> (nI i &&& 31)) &&& 1 = 1 ↔ m.testBit i = true := by
  have h1 : nI m >>> (nI i &&& 31) = nI (m >>> i) := by
    rw [fa_eq, pk_shr (nI m) (nI i &&& 31) i (sh_sm i hi), nI_toInt (by omega), nI_toInt (by
      have := Nat.shiftRight_le m i
      omega)]
    rfl
  rw [h1, show (1 : Int32) = nI 1 from rfl, fa_and, nI_inj (by have := Nat.and_le_right (n := m >>> i) (m := 1); omega) (by omega)]
  unfold Nat.testBit
  rw [Nat.and_comm]
  constructor
  · intro h
    rw [h]
    rfl
  · intro h
    have := Nat.and_le_left (n := 1) (m := m >>> i)
    rw [bne_iff_ne] at h
    omega
section PAY
variable {f b ob t p n k i : Nat} {σ τ : St} {net : Int32} {pr : Nat → Bool}
theorem rkB_nI (hr : ∀ o, o < 6 → pr o = true → ∃ j, 1 ≤ j ∧ j ≤ 9 ∧ gI σ (ob + o) 0 = nI j) : ∀ k, k ≤ 6 → ∃ m, m < 1024 ∧ rkB σ ob pr k = nI m ∧ ∀ i, i < 10 → (m.testBit i = true ↔ ∃ o, o < k ∧ pr o = true ∧ gI σ (ob + o) 0 = nI i)
  | 0, _ => ⟨0, by omega, rfl, fun i _ => ⟨fun h => by rw [Nat.zero_testBit] at h; exact absurd h (by decide), fun ⟨o, ho, _⟩ => absurd ho (Nat.not_lt_zero o)⟩⟩
  | k + 1, hk => by
    obtain ⟨m, hm, e, hb⟩ := rkB_nI hr k (by omega)
    rw [rkB]
    by_cases hp : pr k = true
    · obtain ⟨j, j1, j9, hj⟩ := hr k (by omega) hp
      refine ⟨m ||| 2 ^ j, Nat.or_lt_two_pow (n := 10) hm (by have := Nat.pow_lt_pow_right (a := 2) (m := j) (n := 10) (by omega) (by omega); exact this), ?_, fun i hi => ?_⟩
      · rw [if_pos hp, hj, e, one_shl j (by omega), fa_or]
      · rw [Nat.testBit_or, Bool.or_eq_true, hb i hi, Nat.testBit_two_pow, decide_eq_true_eq]
        constructor
        · rintro (⟨o, ho, h1, h2⟩ | rfl)
          · exact ⟨o, by omega, h1, h2⟩
          · exact ⟨k, by omega, hp, hj⟩
        · rintro ⟨o, ho, h1, h2⟩
          by_cases hok : o = k
          · subst hok
            rw [hj] at h2
            exact Or.inr ((nI_inj (by omega) (by omega)).mp h2)
          · exact Or.inl ⟨o, by omega, h1, h2⟩
    · refine ⟨m, hm, by rw [if_neg hp]; exact e, fun i hi => ?_⟩
      rw [hb i hi]
      constructor
      · rintro ⟨o, ho, h1, h2⟩
        exact ⟨o, by omega, h1, h2⟩
      · rintro ⟨o, ho, h1, h2⟩
        refine ⟨o, ?_, h1, h2⟩
        have : o ≠ k := fun y => hp (y ▸ h1)
        omega
theorem rkB_bit (hr : ∀ o, o < 6 → pr o = true → ∃ j, 1 ≤ j ∧ j ≤ 9 ∧ gI σ (ob + o) 0 = nI j) (hi : i < 10) : rkB σ ob pr 6 >>> (nI i &&& 31) &&& 1 = 1 ↔ ∃ o, o < 6 ∧ pr o = true ∧ gI σ (ob + o) 0 = nI i := by
  obtain ⟨m, hm, e, hb⟩ := rkB_nI hr 6 (by omega)
  rw [e, bit_nI hm hi]
  exact hb i hi
theorem wtF_none {M : Nat → Bool} {g W : Nat → Int32} : ∀ n, (∀ o, o < n → M o = false) → wtF M g n W = W
  | 0, _ => rfl
  | n + 1, h => by rw [wtF, h n (by omega), if_neg (by decide), wtF_none n (fun o ho => h o (by omega))]
theorem nf_none {M : Nat → Bool} {O W : Nat → Int32} {ab : Int32} : ∀ n, (∀ o, o < n → M o = false) → nfF M O W ab n = -1
  | 0, _ => rfl
  | n + 1, h => by rw [nfF, h n (by omega), nf_none n (fun o ho => h o (by omega))]; rfl
/-- what class and reference have alike as a pay begins -/
def PayOK (σ τ : St) (f b ob t p n : Nat) (net : Int32) : Prop :=
  n ≤ 6 ∧ (∀ o, o < n → presF σ ob n (nI p) o = (rLive τ t o && rAt τ o (nI p))) ∧ (∀ o, o < n → ∃ j, 1 ≤ j ∧ j ≤ 9 ∧ gI σ (ob + o) 0 = nI j ∧ gI τ 91 (51 + o) = nI j) ∧ (gI σ b 8 = gI τ 91 2 ∧ (gI σ b 8 = 0 ∨ gI σ b 8 = 1)) ∧
  (∀ o, o < n → cOwn σ ob (cFloor σ b p net) (gI σ (b + 13 + p) 0) o = rOwn τ o p net ∧ 0 ≤ (rOwn τ o p net).toInt ∧ (rOwn τ o p net).toInt ≤ 100000) ∧
  (∀ o L, o < n → presF σ ob n (nI p) o = true → -5999994 ≤ L.toInt → L.toInt ≤ 9999 → cWant σ b ob net (gI σ (b + 13 + p) 0) (maxI (L - cFloor σ b p net) 0) o = rWant τ t o p net L ∧ 0 ≤ (rWant τ t o p net L).toInt ∧ (rWant τ t o p net L).toInt ≤ 999999) ∧
  (0 ≤ net.toInt ∧ net.toInt ≤ 9999) ∧ ∀ j, 6 ≤ j → gI σ (f + 2) j = 0 ∧ gI σ (f + 3) j = 0 ∧ gI τ 101 j = 0 ∧ gI τ 102 j = 0
/-- behind i ranks -/
def PayJ (τ : St) (t p n : Nat) (net : Int32) (pr : Nat → Bool) (i : Nat) (x : (Nat → Int32) × (Nat → Int32) × Int32) : Prop :=
  PI n x.1 net.toInt x.2 ∧ ∀ o, o < n → ((pr o = false ∨ ∃ j, i < j ∧ j ≤ 9 ∧ gI τ 91 (51 + o) = nI j) → x.1 o = 0 ∧ x.2.1 o = 0) ∧ (x.1 o = 0 ∨ ∃ L : Int32, -5999994 ≤ L.toInt ∧ L.toInt ≤ 9999 ∧ x.1 o = rWant τ t o p net L)
theorem pay_eq (h : PayOK σ τ f b ob t p n net) : ∀ i, i ≤ 9 → (∀ (C : (Nat → Int32) × (Nat → Int32) × ((Nat → Int32) × Int32)) (R : (Nat → Int32) × (Nat → Int32) × Int32),
      C = ckF σ b ob p n net (cFloor σ b p net) (presF σ ob n (nI p)) (rkB σ ob (presF σ ob n (nI p)) 6) i (zrF (gI σ (f + 2)) 6, gI σ (f + 4), (zrF (gI σ (f + 3)) 6, net)) → R = rPay τ t p net 7 7 n i →
      C.1 = R.1 ∧ C.2.2 = R.2 ∧ PayJ τ t p n net (presF σ ob n (nI p)) i R) ∧ ∀ i', i' < i → rkOK τ t p net 7 7 n (nI (i' + 1)) (rPay τ t p net 7 7 n i')
  | 0, _ => by
    obtain ⟨hn, hp, hrk, hev, hO, hW, hnet, h0⟩ := h
    have e1 : zrF (gI σ (f + 2)) 6 = fun _ => 0 := funext fun j => by rw [zrF_at]; split; rfl; exact (h0 j (by omega)).1
    have e2 : zrF (gI σ (f + 3)) 6 = fun _ => 0 := funext fun j => by rw [zrF_at]; split; rfl; exact (h0 j (by omega)).2.1
    have e3 : zrF (gI τ 101) 6 = fun _ => 0 := funext fun j => by rw [zrF_at]; split; rfl; exact (h0 j (by omega)).2.2.1
    have e4 : zrF (gI τ 102) 6 = fun _ => 0 := funext fun j => by rw [zrF_at]; split; rfl; exact (h0 j (by omega)).2.2.2
    refine ⟨?_, fun i' hi => absurd hi (Nat.not_lt_zero i')⟩
    rintro C R rfl rfl
    unfold ckF rPay rkF
    rw [e1, e2, e3, e4]
    refine ⟨rfl, rfl, ⟨fun o ho => ?_, ?_, hn, hnet.1, hnet.2⟩, fun o ho => ⟨fun _ => ⟨rfl, rfl⟩, Or.inl rfl⟩⟩
    · show 0 ≤ (0 : Int32).toInt ∧ (0 : Int32).toInt ≤ (0 : Int32).toInt ∧ (0 : Int32).toInt ≤ 999999
      rw [iT0]
      omega
    · show net.toInt = net.toInt - siI (fun _ => (0 : Int32).toInt) n
      have : ∀ m, siI (fun _ => (0 : Int32).toInt) m = 0 := by
        intro m
        induction m with
        | zero => rfl
        | succ m ih => rw [siI, ih, iT0]; rfl
      rw [this]
      omega
  | i + 1, hi => by
    obtain ⟨ih1, ih2⟩ := pay_eq h i (by omega)
    obtain ⟨hn, hp, hrk, hev, hO, hW, hnet, h0⟩ := h
    obtain ⟨hC1, hC2, hJ⟩ := ih1 _ _ rfl rfl
    obtain ⟨hPI, hz⟩ := hJ
    have hM : ∀ o, o < n → cM σ ob (presF σ ob n (nI p)) (nI (i + 1)) o = rMem τ t p (nI (i + 1)) o := by
      intro o ho
      obtain ⟨j, _, _, j1, j2⟩ := hrk o ho
      unfold cM rMem
      rw [hp o ho, j1, j2]
    have hMp : ∀ o, o < n → rMem τ t p (nI (i + 1)) o = true → presF σ ob n (nI p) o = true ∧ gI τ 91 (51 + o) = nI (i + 1) := by
      intro o ho hm
      unfold rMem at hm
      rw [Bool.and_eq_true, decide_eq_true_eq, ← hp o ho] at hm
      exact hm
    have hl := hPI.left
    have hG : ∀ o, o < n → rMem τ t p (nI (i + 1)) o = true → (rPay τ t p net 7 7 n i).2.1 o = 0 := by
      intro o ho hm
      exact ((hz o ho).1 (Or.inr ⟨i + 1, by omega, hi, (hMp o ho hm).2⟩)).2
    have hwt : ∀ o, o < n → rMem τ t p (nI (i + 1)) o = true → 0 ≤ (rWant τ t o p net (rPay τ t p net 7 7 n i).2.2).toInt ∧ (rWant τ t o p net (rPay τ t p net 7 7 n i).2.2).toInt ≤ 999999 := by
      intro o ho hm
      exact (hW o _ ho (hMp o ho hm).1 hl.1 hl.2).2
    have hO2 : ∀ O0 : Nat → Int32, ∀ o, o < n → rMem τ t p (nI (i + 1)) o = true → wtF (rMem τ t p (nI (i + 1))) (cOwn σ ob (cFloor σ b p net) (gI σ (b + 13 + p) 0)) n O0 o = rOwn τ o p net := by
      intro O0 o ho hm
      rw [wtF_at, if_pos ⟨ho, hm⟩]
      exact (hO o ho).1
    have hwc : ∀ W0 : Nat → Int32, wtF (rMem τ t p (nI (i + 1))) (cWant σ b ob net (gI σ (b + 13 + p) 0) (maxI ((rPay τ t p net 7 7 n i).2.2 - cFloor σ b p net) 0)) n W0 = wtF (rMem τ t p (nI (i + 1))) (fun o => rWant τ t o p net (rPay τ t p net 7 7 n i).2.2) n W0 :=
      fun W0 => wtF_cg n (fun _ _ => rfl) (fun o ho hm => (hW o _ ho (hMp o ho hm).1 hl.1 hl.2).1)
    have key := fun O0 => rk_eq (ev := gI σ b 8) (M := rMem τ t p (nI (i + 1))) (O := fun o => rOwn τ o p net) (O' := wtF (rMem τ t p (nI (i + 1))) (cOwn σ ob (cFloor σ b p net) (gI σ (b + 13 + p) 0)) n O0) (wt := fun o => rWant τ t o p net (rPay τ t p net 7 7 n i).2.2) (s := (rPay τ t p net 7 7 n i).2) hPI hG hwt (hO2 O0) (fun o ho _ => (hO o ho).2) hev.2
    rw [hev.1] at key
    have hR : rPay τ t p net 7 7 n (i + 1) = rkS τ t p net 7 7 n (nI (i + 1)) (rPay τ t p net 7 7 n i) := rfl
    have hbits : rkB σ ob (presF σ ob n (nI p)) 6 >>> (nI (i + 1) &&& 31) &&& 1 = 1 ↔ ∃ o, o < 6 ∧ presF σ ob n (nI p) o = true ∧ gI σ (ob + o) 0 = nI (i + 1) := by
      refine rkB_bit (fun o ho hpo => ?_) (by omega)
      have hon : o < n := by
        unfold presF at hpo
        rw [Bool.and_eq_true, decide_eq_true_eq] at hpo
        exact hpo.1
      obtain ⟨j, a1, a2, a3, _⟩ := hrk o hon
      exact ⟨j, a1, a2, a3⟩
    refine ⟨?_, fun i' hi' => ?_⟩
    · rintro C R rfl rfl
      rw [hR, ckF]
      have hPJ : PayJ τ t p n net (presF σ ob n (nI p)) (i + 1) (rkS τ t p net 7 7 n (nI (i + 1)) (rPay τ t p net 7 7 n i)) := by
        refine ⟨(key (fun _ => 0)).2.2, fun o ho => ⟨fun hc => ?_, ?_⟩⟩
        · have hnm : rMem τ t p (nI (i + 1)) o = false := by
            cases hm : rMem τ t p (nI (i + 1)) o
            · rfl
            · have := hMp o ho hm
              rcases hc with hc | ⟨j, j1, j2, j3⟩
              · exact absurd (this.1.symm.trans hc) (by decide)
              · rw [this.2, nI_inj (by omega) (by omega)] at j3
                omega
          have hold := (hz o ho).1 (hc.elim Or.inl (fun ⟨j, j1, j2, j3⟩ => Or.inr ⟨j, by omega, j2, j3⟩))
          unfold rkS
          refine ⟨?_, ?_⟩
          · show wtF _ _ n _ o = 0
            rw [wtF_at, if_neg (fun z => absurd (z.2.symm.trans hnm) (by decide))]
            exact hold.1
          · show (flF _ _ _ _ _ _ _ _ _).1 o = 0
            rw [flF_M hnm]
            exact hold.2
        · unfold rkS
          show wtF _ _ n _ o = 0 ∨ ∃ L : Int32, _ ∧ _ ∧ wtF _ _ n _ o = _
          rw [wtF_at]
          by_cases hm : o < n ∧ rMem τ t p (nI (i + 1)) o = true
          · rw [if_pos hm]
            exact Or.inr ⟨_, hl.1, hl.2, rfl⟩
          · rw [if_neg hm]
            exact (hz o ho).2
      refine ⟨?_, ?_, hPJ⟩
      all_goals
        unfold ckS
        by_cases hb : rkB σ ob (presF σ ob n (nI p)) 6 >>> (nI (i + 1) &&& 31) &&& 1 = 1
        · rw [if_pos hb, hC1, hC2, (cN_cg n hM).1, (cN_cg n hM).2, wtF_cg n hM (fun _ _ _ => rfl), wtF_cg (f := cOwn σ ob (cFloor σ b p net) (gI σ (b + 13 + p) 0)) n hM (fun _ _ _ => rfl), hwc, hev.1]
          first | rfl | exact (key _).1
        · rw [if_neg hb]
          have hno : ∀ o, o < n → rMem τ t p (nI (i + 1)) o = false := by
            intro o ho
            cases hm : rMem τ t p (nI (i + 1)) o
            · rfl
            · refine absurd (hbits.mpr ⟨o, by omega, (hMp o ho hm).1, ?_⟩) hb
              obtain ⟨j, _, _, j1, j2⟩ := hrk o ho
              rw [j1, ← j2]
              exact (hMp o ho hm).2
          first
          | (show _ = wtF _ _ n _; rw [wtF_none n hno]; exact hC1)
          | (show _ = flF _ _ _ _ _ _ _ _ _; rw [nf_none n hno, flF, if_pos rfl]; exact hC2)
    · by_cases hii : i' = i
      · subst hii
        exact (key (fun _ => 0)).2.1
      · exact ih2 i' (by omega)
end PAY
