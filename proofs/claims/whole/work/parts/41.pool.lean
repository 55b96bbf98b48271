/-! the pool of class and reference: the same -/
section POOL
variable {n : Nat} {W : Nat → Int32} {N : Int} {s t : (Nat → Int32) × Int32} {o : Nat} {x fl e : Int32} {M : Nat → Bool} {O O' : Nat → Int32}
/-- what holds all along: nobody has more than he wants, and what is left is what was there less what they have -/
def PI (n : Nat) (W : Nat → Int32) (N : Int) (s : (Nat → Int32) × Int32) : Prop :=
  (∀ o, o < n → 0 ≤ (s.1 o).toInt ∧ (s.1 o).toInt ≤ (W o).toInt ∧ (W o).toInt ≤ 999999) ∧ s.2.toInt = N - siI (fun o => (s.1 o).toInt) n ∧ n ≤ 6 ∧ 0 ≤ N ∧ N ≤ 9999
theorem PI.left (h : PI n W N s) : -5999994 ≤ s.2.toInt ∧ s.2.toInt ≤ 9999 := by
  obtain ⟨h1, h2, h3, h4, h5⟩ := h
  have := siI_rng (f := fun o => (s.1 o).toInt) (c := 999999) (by omega) n (fun o ho => ⟨(h1 o ho).1, by have := h1 o ho; omega⟩)
  omega
theorem PI_gv (h : PI n W N s) (ho : o < n) (hx0 : 0 ≤ x.toInt) (hx : x.toInt ≤ (W o).toInt - (s.1 o).toInt) : PI n W N (gv s o x) := by
  have hl := h.left
  obtain ⟨h1, h2, h3, h4, h5⟩ := h
  have ho1 := h1 o ho
  have ea : (s.1 o + x).toInt = (s.1 o).toInt + x.toInt := fb_addI (by omega) (by omega)
  refine ⟨fun j hj => ?_, ?_, h3, h4, h5⟩
  · show 0 ≤ (upd s.1 o (s.1 o + x) j).toInt ∧ (upd s.1 o (s.1 o + x) j).toInt ≤ (W j).toInt ∧ _
    by_cases hjo : j = o
    · subst hjo
      rw [pk_us, ea]
      omega
    · rw [pk_un hjo]
      exact h1 j hj
  · show (s.2 - x).toInt = N - siI (fun k => (upd s.1 o (s.1 o + x) k).toInt) n
    rw [siI_upd _ _ _ _ ho, ea, fb_subI (by omega) (by omega), h2]
    omega
theorem PI_pass {sel : (Nat → Int32) × Int32 → Nat → Bool} {amt : (Nat → Int32) × Int32 → Nat → Int32} (h : PI n W N s) (hs : ∀ u o, o < n → PI n W N u → sel u o = true → 0 ≤ (amt u o).toInt ∧ (amt u o).toInt ≤ (W o).toInt - (u.1 o).toInt) : ∀ k, k ≤ n → PI n W N (pass sel amt k s)
  | 0, _ => h
  | k + 1, hk => by
    have ih := PI_pass h hs k (by omega)
    rw [pass]
    by_cases hc : sel (pass sel amt k s) k = true
    · rw [if_pos hc]
      have := hs _ k (by omega) ih hc
      exact PI_gv ih (by omega) this.1 this.2
    · rw [if_neg hc]
      exact ih
theorem pass_at {sel : (Nat → Int32) × Int32 → Nat → Bool} {amt : (Nat → Int32) × Int32 → Nat → Int32} : ∀ k j, k ≤ j → (pass sel amt k s).1 j = s.1 j
  | 0, _, _ => rfl
  | k + 1, j, h => by
    rw [pass]
    by_cases hc : sel (pass sel amt k s) k = true
    · rw [if_pos hc]
      show upd _ k _ j = _
      rw [pk_un (by omega)]
      exact pass_at k j (by omega)
    · rw [if_neg hc]
      exact pass_at k j (by omega)
/-- who is never chosen gets nothing -/
theorem pass_off {sel : (Nat → Int32) × Int32 → Nat → Bool} {amt : (Nat → Int32) × Int32 → Nat → Int32} {j : Nat} (h : ∀ u, u.1 j = s.1 j → sel u j = false) : ∀ k, (pass sel amt k s).1 j = s.1 j
  | 0 => rfl
  | k + 1 => by
    have ih := pass_off h k (amt := amt)
    rw [pass]
    by_cases hc : sel (pass sel amt k s) k = true
    · rw [if_pos hc]
      show upd _ k _ j = _
      by_cases hj : j = k
      · subst hj
        rw [h _ ih] at hc
        exact absurd hc (by decide)
      · rw [pk_un hj]
        exact ih
    · rw [if_neg hc]
      exact ih
theorem pass_cg {sel sel' : (Nat → Int32) × Int32 → Nat → Bool} {amt amt' : (Nat → Int32) × Int32 → Nat → Int32} : ∀ n, (∀ u o, o < n → u.1 o = s.1 o → sel u o = sel' u o) → (∀ u o, o < n → u.1 o = s.1 o → sel u o = true → amt u o = amt' u o) → pass sel amt n s = pass sel' amt' n s
  | 0, _, _ => rfl
  | k + 1, h1, h2 => by
    have ih := pass_cg k (fun u o ho => h1 u o (by omega)) (fun u o ho => h2 u o (by omega))
    have hat : (pass sel amt k s).1 k = s.1 k := pass_at k k (Nat.le_refl k)
    rw [pass, pass, ← ih]
    by_cases hc : sel (pass sel amt k s) k = true
    · rw [if_pos hc, if_pos ((h1 _ k (by omega) hat).symm.trans hc), h2 _ k (by omega) hat hc]
    · rw [if_neg hc, if_neg (fun z => hc ((h1 _ k (by omega) hat).trans z))]
theorem pass_none {sel : (Nat → Int32) × Int32 → Nat → Bool} {amt : (Nat → Int32) × Int32 → Nat → Int32} : ∀ n, (∀ u o, o < n → u.1 o = s.1 o → sel u o = false) → pass sel amt n s = s
  | 0, _ => rfl
  | k + 1, h => by
    have ih := pass_none k (amt := amt) (fun u o ho => h u o (by omega))
    rw [pass, ih, h s k (by omega) rfl]
    exact if_neg (by decide)
theorem cN_cg {f g : Nat → Bool} : ∀ n, (∀ o, o < n → f o = g o) → cN f n = cN g n ∧ grF f n = grF g n
  | 0, _ => ⟨rfl, rfl⟩
  | n + 1, h => by
    obtain ⟨h1, h2⟩ := cN_cg n (fun o ho => h o (by omega))
    rw [cN, cN, grF, grF, h1, h2, h n (by omega)]
    exact ⟨rfl, rfl⟩
theorem cN_sub {f g : Nat → Bool} : ∀ n, (∀ o, o < n → f o = true → g o = true) → cN f n ≤ cN g n
  | 0, _ => Nat.le_refl 0
  | n + 1, h => by
    have ih := cN_sub n (fun o ho => h o (by omega))
    rw [cN, cN]
    by_cases hf : f n = true
    · rw [if_pos hf, if_pos (h n (by omega) hf)]; omega
    · rw [if_neg hf]
      split <;> omega
theorem cN_lt {f g : Nat → Bool} {o : Nat} : ∀ n, o < n → (∀ o, o < n → f o = true → g o = true) → g o = true → f o = false → cN f n < cN g n
  | 0, ho, _, _, _ => absurd ho (Nat.not_lt_zero o)
  | n + 1, ho, h, hg, hf => by
    rw [cN, cN]
    by_cases hon : o = n
    · subst hon
      have := cN_sub o (fun o ho => h o (by omega))
      rw [if_pos hg, hf, if_neg (by decide)]
      omega
    · have ih := cN_lt n (by omega) (fun o ho => h o (by omega)) hg hf
      by_cases hfn : f n = true
      · rw [if_pos hfn, if_pos (h n (by omega) hfn)]; omega
      · rw [if_neg hfn]
        split <;> omega
theorem cntF_N (f : Nat → Bool) : ∀ n, cntF f n = nI (cN f n)
  | 0 => rfl
  | n + 1 => by
    rw [cntF, cN, cntF_N f n]
    by_cases h : f n = true
    · rw [if_pos h, if_pos h]
      exact nI_add (cN f n) 1
    · rw [if_neg h, if_neg h, Int32.add_zero]
theorem cntF_cg {f g : Nat → Bool} : ∀ n, (∀ o, o < n → f o = g o) → cntF f n = cntF g n := fun n h => by rw [cntF_N, cntF_N, (cN_cg n h).1]
theorem sumB_cg {f g : Nat → Bool} {w : Nat → Int32} : ∀ n, (∀ o, o < n → f o = g o) → sumB f w n = sumB g w n
  | 0, _ => rfl
  | n + 1, h => by rw [sumB, sumB, sumB_cg n (fun o ho => h o (by omega)), h n (by omega)]
theorem sumB_T {f : Nat → Bool} {w : Nat → Int32} : ∀ n, n ≤ 6 → (∀ o, o < n → f o = true → 0 ≤ (w o).toInt ∧ (w o).toInt ≤ 999999) → 0 ≤ (sumB f w n).toInt ∧ (sumB f w n).toInt ≤ n * 999999 ∧ ((sumB f w n).toInt = 0 → ∀ o, o < n → f o = true → (w o).toInt = 0)
  | 0, _, _ => by
    rw [sumB, iT0]
    exact ⟨by omega, by omega, fun _ o ho => absurd ho (Nat.not_lt_zero o)⟩
  | n + 1, hn, h => by
    obtain ⟨h1, h2, h3⟩ := sumB_T n (by omega) (fun o ho => h o (by omega))
    have hh := h n (by omega)
    rw [sumB]
    by_cases hf : f n = true
    · have hw := hh hf
      have ea : (sumB f w n + w n).toInt = (sumB f w n).toInt + (w n).toInt := fb_addI (by omega) (by omega)
      rw [if_pos hf, ea]
      refine ⟨by omega, by omega, fun z o ho hfo => ?_⟩
      by_cases hon : o = n
      · subst hon; omega
      · exact h3 (by omega) o (by omega) hfo
    · rw [if_neg hf, Int32.add_zero]
      refine ⟨h1, by omega, fun z o ho hfo => ?_⟩
      by_cases hon : o = n
      · subst hon; exact absurd hfo hf
      · exact h3 z o (by omega) hfo
theorem yt_i {G : Nat → Int32} : yt M O W fl G o = true ↔ M o = true ∧ O o ≤ fl ∧ G o < W o := by
  unfold yt
  rw [Bool.and_eq_true, Bool.and_eq_true, decide_eq_true_eq, decide_eq_true_eq, and_assoc]
theorem yt_at {G G' : Nat → Int32} (h : G o = G' o) : yt M O W fl G o = yt M O W fl G' o := by unfold yt; rw [h]
/-- of those that didn't share at first nobody has anything new -/
def Sm (M : Nat → Bool) (O W : Nat → Int32) (fl : Int32) (n : Nat) (G : Nat → Int32) (s : (Nat → Int32) × Int32) : Prop := ∀ o, o < n → yt M O W fl G o = false → s.1 o = G o
theorem yt_Sm {G : Nat → Int32} (h : Sm M O W fl n G s) (ho : o < n) (hy : yt M O W fl s.1 o = true) : yt M O W fl G o = true := by
  cases hg : yt M O W fl G o
  · rw [yt_at (h o ho hg), hg] at hy
    exact hy
  · rfl
theorem gv_0 : gv s o 0 = s := by
  unfold gv
  rw [Int32.add_zero, Int32.sub_zero]
  refine congrArg (fun z => (z, s.2)) (funext fun j => ?_)
  by_cases h : j = o
  · subst h; exact pk_us
  · exact pk_un h
/-- what is given in an even round -/
theorem even_rng {u : (Nat → Int32) × Int32} (h : PI n W N u) (ho : o < n) (he : 0 ≤ e.toInt) : 0 ≤ (leI e (W o - u.1 o)).toInt ∧ (leI e (W o - u.1 o)).toInt ≤ (W o).toInt - (u.1 o).toInt := by
  have hu := h.1 o ho
  rw [leI_T, fb_subI (by omega) (by omega)]
  split <;> omega
theorem ev_round {G : Nat → Int32} (h : PI n W N s) (hS : Sm M O W fl n G s) (he : 0 ≤ e.toInt) : ∀ k, k ≤ n → foldB (yt M O W fl G) (evS W e) k (s, 0) = (pass (fun u o => yt M O W fl u.1 o) (fun u o => leI e (W o - u.1 o)) k s, cntF (yt M O W fl (pass (fun u o => yt M O W fl u.1 o) (fun u o => leI e (W o - u.1 o)) k s).1) k)
  | 0, _ => rfl
  | k + 1, hk => by
    have ih := ev_round h hS he k (by omega)
    have hat : (pass (fun u o => yt M O W fl u.1 o) (fun u o => leI e (W o - u.1 o)) k s).1 k = s.1 k := pass_at k k (Nat.le_refl k)
    have hPI : PI n W N (pass (fun u o => yt M O W fl u.1 o) (fun u o => leI e (W o - u.1 o)) k s) := PI_pass h (fun u o ho hu _ => even_rng hu ho he) k (by omega)
    rw [foldB, pass, ih]
    generalize pass (fun u o => yt M O W fl u.1 o) (fun u o => leI e (W o - u.1 o)) k s = u at hat hPI
    rw [cntF]
    by_cases hy : yt M O W fl u.1 k = true
    · have hg : yt M O W fl G k = true := yt_Sm hS (by omega) (by rw [← hy]; exact yt_at hat.symm)
      rw [if_pos hg, if_pos hy, evS, mm_min]
      refine congrArg (fun z => (gv u k (leI e (W k - u.1 k)), z)) ?_
      have hc : cntF (yt M O W fl (gv u k (leI e (W k - u.1 k))).1) k = cntF (yt M O W fl u.1) k := cntF_cg k (fun o ho => yt_at (pk_un (by omega)))
      have hy2 := yt_i.mp hy
      rw [hc]
      refine congrArg (fun z => cntF (yt M O W fl u.1) k + z) ?_
      by_cases hl : (gv u k (leI e (W k - u.1 k))).1 k < W k
      · rw [if_pos hl, if_pos (yt_i.mpr ⟨hy2.1, hy2.2.1, hl⟩)]
      · rw [if_neg hl, if_neg (fun z => hl (yt_i.mp z).2.2)]
    · rw [if_neg hy]
      have hc0 : (if yt M O W fl u.1 k = true then (1 : Int32) else 0) = 0 := if_neg hy
      rw [hc0, Int32.add_zero]
      by_cases hg : yt M O W fl G k = true
      · rw [if_pos hg, evS, mm_min]
        have hg2 := yt_i.mp hg
        have hge : ¬ u.1 k < W k := fun z => hy (yt_i.mpr ⟨hg2.1, hg2.2.1, z⟩)
        have hu := hPI.1 k (by omega)
        have hz : W k - u.1 k = 0 := by
          rw [fa_lt] at hge
          rw [fa_eq, fb_subI (by omega) (by omega), iT0]
          omega
        have hle : leI e (W k - u.1 k) = 0 := by
          rw [hz, fa_eq, leI_T, iT0]
          split <;> omega
        show (gv u k (leI e (W k - u.1 k)), cntF (yt M O W fl u.1) k + if (gv u k (leI e (W k - u.1 k))).1 k < W k then 1 else 0) = _
        rw [hle, gv_0, if_neg hge, Int32.add_zero]
      · rw [if_neg hg]
theorem Sm_pass {G : Nat → Int32} {amt : (Nat → Int32) × Int32 → Nat → Int32} (hS : Sm M O W fl n G s) (k : Nat) : Sm M O W fl n G (pass (fun u o => yt M O W fl u.1 o) amt k s) := fun o ho hg => by
  rw [pass_off (fun u hu => ?_) k]
  · exact hS o ho hg
  · show yt M O W fl u.1 o = false
    rw [yt_at (hu.trans (hS o ho hg)), hg]
/-- the class's rounds are the reference's -/
theorem evL_evs {G : Nat → Int32} : ∀ (j : Nat) (s : (Nat → Int32) × Int32), PI n W N s → Sm M O W fl n G s → -100000 ≤ fl.toInt → fl.toInt ≤ 100000 → evL (grF (yt M O W fl G) n) W fl (cN (yt M O W fl G) n) j (s, evC M O W fl n s) = evs M O W fl n j s
  | 0, _, _, _, _, _ => rfl
  | j + 1, s, h, hS, f1, f2 => by
    rw [evL, evs, evGo]
    by_cases hc : 0 < evC M O W fl n s ∧ evC M O W fl n s ≤ s.2 - fl
    · rw [if_pos hc, if_pos (decide_eq_true hc), foldL_grF]
      have hl := h.left
      have c1 := (fa_lt _ _).mp hc.1
      have c2 := (fa_le _ _).mp hc.2
      rw [iT0] at c1
      have he : 0 ≤ ((s.2 - fl) / evC M O W fl n s).toInt := by
        rw [iT_div (by omega) c1]
        exact Int.ediv_nonneg (by omega) (by omega)
      rw [ev_round h hS he n (Nat.le_refl n)]
      exact evL_evs j _ (PI_pass h (fun u o ho hu _ => even_rng hu ho he) n (Nat.le_refl n)) (Sm_pass hS n) f1 f2
    · rw [if_neg hc, if_neg (fun z => hc (of_decide_eq_true z))]
theorem evs_inv {G : Nat → Int32} : ∀ (j : Nat) (s : (Nat → Int32) × Int32), PI n W N s → Sm M O W fl n G s → -100000 ≤ fl.toInt → fl.toInt ≤ 100000 → PI n W N (evs M O W fl n j s) ∧ Sm M O W fl n G (evs M O W fl n j s)
  | 0, _, h, hS, _, _ => ⟨h, hS⟩
  | j + 1, s, h, hS, f1, f2 => by
    rw [evs, evGo]
    by_cases hc : 0 < evC M O W fl n s ∧ evC M O W fl n s ≤ s.2 - fl
    · rw [if_pos (decide_eq_true hc)]
      have hl := h.left
      have c1 := (fa_lt _ _).mp hc.1
      have c2 := (fa_le _ _).mp hc.2
      rw [iT0] at c1
      have he : 0 ≤ ((s.2 - fl) / evC M O W fl n s).toInt := by
        rw [iT_div (by omega) c1]
        exact Int.ediv_nonneg (by omega) (by omega)
      exact evs_inv j _ (PI_pass h (fun u o ho hu _ => even_rng hu ho he) n (Nat.le_refl n)) (Sm_pass hS n) f1 f2
    · rw [if_neg (fun z => hc (of_decide_eq_true z))]
      exact ⟨h, hS⟩
theorem pass_const {f : Nat → Bool} : ∀ k, (pass (fun _ o => f o) (fun _ _ => e) k s).2 = s.2 - nI (cN f k) * e
  | 0 => by
    show s.2 = s.2 - nI 0 * e
    rw [show nI 0 = 0 from rfl, Int32.zero_mul, Int32.sub_zero]
  | k + 1 => by
    have ih := pass_const (f := f) k
    rw [pass, cN]
    by_cases hc : f k = true
    · rw [if_pos hc, if_pos hc]
      show (pass (fun _ o => f o) (fun _ _ => e) k s).2 - e = _
      rw [ih, ← nI_1]
      grind
    · rw [if_neg hc, if_neg hc]
      exact ih
end POOL
