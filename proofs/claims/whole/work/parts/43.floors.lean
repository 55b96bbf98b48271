/-! floor by floor: class and reference -/
section FLOORS
variable {n : Nat} {W : Nat → Int32} {N : Int} {s t : (Nat → Int32) × Int32} {o : Nat} {x fl ab e : Int32} {M : Nat → Bool} {O O' : Nat → Int32}
def gfS (O W : Nat → Int32) (ab : Int32) (x : Int32) (o : Nat) : Int32 := if 0 < W o ∧ O o < ab then maxI x (O o) else x
theorem gf_fold {gm : Nat → Nat} : ∀ k, gfF gm O W ab k = foldL gm (gfS O W ab) k (-1)
  | 0 => rfl
  | k + 1 => by rw [gfF, foldL, gf_fold k, gfS]
theorem gf_nf : ∀ n, (∀ o, o < n → M o = true → O' o = O o) → foldB M (gfS O' W ab) n (-1) = nfF M O W ab n
  | 0, _ => rfl
  | n + 1, h => by
    rw [foldB, nfF, gf_nf n (fun o ho => h o (by omega))]
    by_cases hM : M n = true
    · rw [if_pos hM, gfS, h n (by omega) hM]
      by_cases hc : 0 < W n ∧ O n < ab
      · rw [if_pos hc, if_pos (by rw [hM, decide_eq_true hc.1, decide_eq_true hc.2]; rfl), mm_max]
      · rw [if_neg hc, if_neg (fun z => hc (by rw [Bool.and_eq_true, Bool.and_eq_true, decide_eq_true_eq, decide_eq_true_eq] at z; exact ⟨z.1.2, z.2⟩))]
    · rw [if_neg hM, if_neg (fun z => hM (by rw [Bool.and_eq_true, Bool.and_eq_true] at z; exact z.1.1))]
theorem gf_eq (h : ∀ o, o < n → M o = true → O' o = O o) : gfF (grF M n) O' W ab (cN M n) = nfF M O W ab n := by
  rw [gf_fold, foldL_grF, gf_nf n h]
/-- who counts for the next floor -/
def fs (M : Nat → Bool) (O W : Nat → Int32) (ab : Int32) (o : Nat) : Bool := M o && decide (0 < W o) && decide (O o < ab)
theorem fs_i : fs M O W ab o = true ↔ M o = true ∧ 0 < W o ∧ O o < ab := by
  unfold fs
  rw [Bool.and_eq_true, Bool.and_eq_true, decide_eq_true_eq, decide_eq_true_eq, and_assoc]
theorem nf_cg {ab' : Int32} : ∀ n, (∀ o, o < n → fs M O W ab o = fs M O W ab' o) → nfF M O W ab n = nfF M O W ab' n
  | 0, _ => rfl
  | n + 1, h => by
    have h2 := h n (by omega)
    unfold fs at h2
    rw [nfF, nfF, nf_cg n (fun o ho => h o (by omega)), h2]
theorem nf_one : ∀ n, nfF M O W ab n = -1 ∨ ∃ o, o < n ∧ fs M O W ab o = true ∧ nfF M O W ab n = O o
  | 0 => Or.inl rfl
  | n + 1 => by
    rw [nfF]
    by_cases hc : fs M O W ab n = true
    · rw [show (M n && decide (0 < W n) && decide (O n < ab)) = true from hc, if_pos rfl]
      unfold grI
      split
      · rcases nf_one n with h | ⟨o, ho, h1, h2⟩
        · exact Or.inl h
        · exact Or.inr ⟨o, by omega, h1, h2⟩
      · exact Or.inr ⟨n, by omega, hc, rfl⟩
    · rw [show (M n && decide (0 < W n) && decide (O n < ab)) = fs M O W ab n from rfl, if_neg hc]
      rcases nf_one n with h | ⟨o, ho, h1, h2⟩
      · exact Or.inl h
      · exact Or.inr ⟨o, by omega, h1, h2⟩
/-- floor by floor -/
theorem fl_eq {ev : Int32} (hO : ∀ o, o < n → M o = true → O' o = O o) (hB : ∀ o, o < n → M o = true → 0 ≤ (O o).toInt ∧ (O o).toInt ≤ 100000) (hev : ev = 0 ∨ ev = 1) : ∀ (K' K : Nat) (ab : Int32) (s : (Nat → Int32) × Int32), PI n W N s → cN (fs M O W ab) n ≤ K → cN (fs M O W ab) n < K' →
    flC ev (grF M n) (cN M n) O' W K ab s = flF (decide (ev = 1)) 7 M O W n K' (nfF M O W ab n) s ∧ flOK (decide (ev = 1)) 7 M O W n K' (nfF M O W ab n) s ∧ PI n W N (flF (decide (ev = 1)) 7 M O W n K' (nfF M O W ab n) s)
  | 0, _, _, _, _, _, h => absurd h (Nat.not_lt_zero _)
  | K' + 1, K, ab, s, hp, hK, hK' => by
    by_cases hf : nfF M O W ab n = -1
    · rw [flF, flOK, if_pos hf]
      refine ⟨?_, fun z => absurd hf z, hp⟩
      cases K with
      | zero => rfl
      | succ K => rw [flC, gf_eq hO, if_pos hf]
    · rcases nf_one n (M := M) (O := O) (W := W) (ab := ab) with h | ⟨o, ho, h1, h2⟩
      · exact absurd h hf
      · have hb := hB o ho (fs_i.mp h1).1
        have hsub : ∀ j, j < n → fs M O W (nfF M O W ab n) j = true → fs M O W ab j = true := by
          intro j hj hz
          have hz := fs_i.mp hz
          refine fs_i.mpr ⟨hz.1, hz.2.1, ?_⟩
          have a1 := (fs_i.mp h1).2.2
          rw [← h2, fa_lt] at a1
          have a2 := hz.2.2
          rw [fa_lt] at a2 ⊢
          omega
        have hno : fs M O W (nfF M O W ab n) o = false := by
          cases hz : fs M O W (nfF M O W ab n) o
          · rfl
          · have a2 := (fs_i.mp hz).2.2
            rw [h2, fa_lt] at a2
            omega
        have hlt := cN_lt n ho hsub h1 hno
        obtain ⟨p1, p2, p3⟩ := pool_eq (ev := ev) (fl := nfF M O W ab n) hp hO (by rw [h2]; omega) (by rw [h2]; omega) hev
        rw [flF, flOK, if_neg hf]
        cases K with
        | zero => omega
        | succ K =>
          rw [flC, gf_eq hO, if_neg hf, p1]
          obtain ⟨q1, q2, q3⟩ := fl_eq hO hB hev K' K (nfF M O W ab n) _ p3 (by omega) (by omega)
          exact ⟨q1, fun _ => ⟨p2, q2⟩, q3⟩
theorem flF_M {ev : Bool} {k j : Nat} (hj : M j = false) : ∀ (K : Nat) (fl : Int32) (s : (Nat → Int32) × Int32), (flF ev k M O W n K fl s).1 j = s.1 j
  | 0, _, _ => rfl
  | K + 1, fl, s => by
    rw [flF]
    split
    · rfl
    · rw [flF_M hj K, poolF_M hj]
theorem wtF_at {f : Nat → Int32} {j : Nat} : ∀ n, wtF M f n W j = if j < n ∧ M j = true then f j else W j
  | 0 => (if_neg (fun z => absurd z.1 (Nat.not_lt_zero j))).symm
  | n + 1 => by
    rw [wtF]
    have ih := wtF_at (f := f) (j := j) n
    by_cases hM : M n = true
    · rw [if_pos hM]
      by_cases hj : j = n
      · subst hj
        rw [pk_us, if_pos ⟨Nat.lt_succ_self j, hM⟩]
      · rw [pk_un hj, ih]
        by_cases hc : j < n ∧ M j = true
        · rw [if_pos hc, if_pos ⟨by omega, hc.2⟩]
        · rw [if_neg hc, if_neg (fun z => hc ⟨by omega, z.2⟩)]
    · rw [if_neg hM, ih]
      by_cases hc : j < n ∧ M j = true
      · rw [if_pos hc, if_pos ⟨by omega, hc.2⟩]
      · rw [if_neg hc, if_neg (fun z => hc ⟨by
          have := z.1
          have hne : j ≠ n := fun y => hM (y ▸ z.2)
          omega, z.2⟩)]
theorem wtF_cg {M' : Nat → Bool} {f f' : Nat → Int32} : ∀ n, (∀ o, o < n → M o = M' o) → (∀ o, o < n → M o = true → f o = f' o) → wtF M f n W = wtF M' f' n W
  | 0, _, _ => rfl
  | n + 1, h1, h2 => by
    rw [wtF, wtF, wtF_cg n (fun o ho => h1 o (by omega)) (fun o ho => h2 o (by omega)), ← h1 n (by omega)]
    by_cases hM : M n = true
    · rw [if_pos hM, if_pos hM, h2 n (by omega) hM]
    · rw [if_neg hM, if_neg hM]
/-- a rank: class and reference -/
theorem rk_eq {ev : Int32} {wt : Nat → Int32} (hp : PI n W N s) (hG : ∀ o, o < n → M o = true → s.1 o = 0) (hwt : ∀ o, o < n → M o = true → 0 ≤ (wt o).toInt ∧ (wt o).toInt ≤ 999999) (hO : ∀ o, o < n → M o = true → O' o = O o) (hB : ∀ o, o < n → M o = true → 0 ≤ (O o).toInt ∧ (O o).toInt ≤ 100000) (hev : ev = 0 ∨ ev = 1) :
    flC ev (grF M n) (cN M n) O' (wtF M wt n W) (cN M n) 1000000 s = flF (decide (ev = 1)) 7 M O (wtF M wt n W) n 7 (nfF M O (wtF M wt n W) 999999 n) s ∧ flOK (decide (ev = 1)) 7 M O (wtF M wt n W) n 7 (nfF M O (wtF M wt n W) 999999 n) s ∧ PI n (wtF M wt n W) N (flF (decide (ev = 1)) 7 M O (wtF M wt n W) n 7 (nfF M O (wtF M wt n W) 999999 n) s) := by
  have hPI : PI n (wtF M wt n W) N s := by
    refine ⟨fun o ho => ?_, hp.2⟩
    rw [wtF_at]
    by_cases hc : o < n ∧ M o = true
    · rw [if_pos hc, hG o ho hc.2, iT0]
      have := hwt o ho hc.2
      omega
    · rw [if_neg hc]
      exact hp.1 o ho
  have hn := hp.2.2.1
  have hcg : ∀ o, o < n → fs M O (wtF M wt n W) 1000000 o = fs M O (wtF M wt n W) 999999 o := by
    intro o ho
    unfold fs
    cases hM : M o
    · rfl
    · have := hB o ho hM
      rw [decide_eq_true (p := O o < 1000000) (by rw [fa_lt]; show (O o).toInt < 1000000; omega), decide_eq_true (p := O o < 999999) (by rw [fa_lt]; show (O o).toInt < 999999; omega)]
  have hc1 : cN (fs M O (wtF M wt n W) 1000000) n ≤ cN M n := cN_sub n (fun o _ z => (fs_i.mp z).1)
  have hc2 := cN_le M n
  rw [← nf_cg n hcg]
  exact fl_eq hO hB hev 7 (cN M n) 1000000 s hPI hc1 (by omega)
end FLOORS
