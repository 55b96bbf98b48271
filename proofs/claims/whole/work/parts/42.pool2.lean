section POOL2
variable {n : Nat} {W : Nat → Int32} {N : Int} {s t : (Nat → Int32) × Int32} {o : Nat} {x fl e : Int32} {M : Nat → Bool} {O O' : Nat → Int32}
theorem evStop_no : ∀ j, evGo M O W fl n s = false → evStop M O W fl n j s
  | 0, h => h
  | j + 1, h => fun z => absurd (h.symm.trans z) (by decide)
/-- a round satisfies one, or it was the last -/
theorem ev_step {G : Nat → Int32} (h : PI n W N s) (hS : Sm M O W fl n G s) (f1 : -100000 ≤ fl.toInt) (f2 : fl.toInt ≤ 100000) (hg : evGo M O W fl n s = true) : cN (yt M O W fl (evNx M O W fl n s).1) n < cN (yt M O W fl s.1) n ∨ evGo M O W fl n (evNx M O W fl n s) = false := by
  have hc := of_decide_eq_true hg
  have hl := h.left
  have c1 := (fa_lt _ _).mp hc.1
  have c2 := (fa_le _ _).mp hc.2
  rw [iT0] at c1
  have hsub : (s.2 - fl).toInt = s.2.toInt - fl.toInt := fb_subI (by omega) (by omega)
  have hdv : ((s.2 - fl) / evC M O W fl n s).toInt = (s.2 - fl).toInt / (evC M O W fl n s).toInt := iT_div (by omega) c1
  have he : 0 ≤ ((s.2 - fl) / evC M O W fl n s).toInt := by
    rw [hdv]
    exact Int.ediv_nonneg (by omega) (by omega)
  have hsb : ∀ o, o < n → yt M O W fl (evNx M O W fl n s).1 o = true → yt M O W fl s.1 o = true := by
    intro o ho hy
    cases hz : yt M O W fl s.1 o
    · have hpo : (evNx M O W fl n s).1 o = s.1 o := pass_off (fun u hu => (yt_at hu).trans hz) n
      rw [yt_at hpo, hz] at hy
      exact hy
    · rfl
  by_cases hall : ∀ o, o < n → yt M O W fl s.1 o = true → leI ((s.2 - fl) / evC M O W fl n s) (W o - s.1 o) = (s.2 - fl) / evC M O W fl n s
  · have hx : evNx M O W fl n s = pass (fun _ o => yt M O W fl s.1 o) (fun _ _ => (s.2 - fl) / evC M O W fl n s) n s := by
      refine pass_cg n (fun u o ho hu => yt_at hu) (fun u o ho hu hy => ?_)
      have hy' : yt M O W fl s.1 o = true := by rw [← hy]; exact (yt_at hu).symm
      rw [show W o - u.1 o = W o - s.1 o by rw [hu]]
      exact hall o ho hy'
    have h2 : (evNx M O W fl n s).2 = s.2 - nI (cN (yt M O W fl s.1) n) * ((s.2 - fl) / evC M O W fl n s) := by
      rw [hx]
      exact pass_const n
    by_cases hlt : cN (yt M O W fl (evNx M O W fl n s).1) n < cN (yt M O W fl s.1) n
    · exact Or.inl hlt
    · refine Or.inr ?_
      have hn6 := h.2.2.1
      have hle := cN_sub n hsb
      have hcn := cN_le (yt M O W fl s.1) n
      have heq : cN (yt M O W fl (evNx M O W fl n s).1) n = cN (yt M O W fl s.1) n := by omega
      have hC : evC M O W fl n s = nI (cN (yt M O W fl s.1) n) := cntF_N _ _
      have hC' : evC M O W fl n (evNx M O W fl n s) = nI (cN (yt M O W fl s.1) n) := by
        rw [← heq]; exact cntF_N _ _
      have hCT : (evC M O W fl n s).toInt = (cN (yt M O W fl s.1) n : Int) := by rw [hC]; exact nI_toInt (by omega)
      refine decide_eq_false (fun z => ?_)
      have z2 := (fa_le _ _).mp z.2
      have hm : (nI (cN (yt M O W fl s.1) n) * ((s.2 - fl) / evC M O W fl n s)).toInt = (evC M O W fl n s).toInt * ((s.2 - fl).toInt / (evC M O W fl n s).toInt) := by
        have hb := Int.mul_ediv_self_le (x := (s.2 - fl).toInt) (k := (evC M O W fl n s).toInt) (by omega)
        have hb0 : 0 ≤ (evC M O W fl n s).toInt * ((s.2 - fl).toInt / (evC M O W fl n s).toInt) := Int.mul_nonneg (by omega) (Int.ediv_nonneg (by omega) (by omega))
        rw [← hC, fb_mulI (by rw [hdv]; omega) (by rw [hdv]; omega), hdv]
      have hb := Int.mul_ediv_self_le (x := (s.2 - fl).toInt) (k := (evC M O W fl n s).toInt) (by omega)
      have hb0 : 0 ≤ (evC M O W fl n s).toInt * ((s.2 - fl).toInt / (evC M O W fl n s).toInt) := Int.mul_nonneg (by omega) (Int.ediv_nonneg (by omega) (by omega))
      have hb2 := Int.lt_mul_ediv_self_add (x := (s.2 - fl).toInt) (k := (evC M O W fl n s).toInt) (by omega)
      rw [hC', ← hC, h2] at z2
      have e1 : (s.2 - nI (cN (yt M O W fl s.1) n) * ((s.2 - fl) / evC M O W fl n s)).toInt = s.2.toInt - (nI (cN (yt M O W fl s.1) n) * ((s.2 - fl) / evC M O W fl n s)).toInt := fb_subI (by omega) (by omega)
      rw [fb_subI (by omega) (by omega), e1, hm] at z2
      omega
  · refine Or.inl ?_
    obtain ⟨o, hh⟩ := Classical.not_forall.mp hall
    obtain ⟨ho, hh2⟩ := Classical.not_imp.mp hh
    obtain ⟨hy, hne⟩ := Classical.not_imp.mp hh2
    refine cN_lt n ho hsb hy ?_
    have hle : leI ((s.2 - fl) / evC M O W fl n s) (W o - s.1 o) = W o - s.1 o := by
      unfold leI at hne ⊢
      by_cases hlt : (s.2 - fl) / evC M O W fl n s < W o - s.1 o
      · rw [if_pos hlt] at hne
        exact absurd rfl hne
      · rw [if_neg hlt]
    have hW : (evNx M O W fl n s).1 o = W o := by
      have hk : ∀ k, o < k → (pass (fun u o => yt M O W fl u.1 o) (fun u o => leI ((s.2 - fl) / evC M O W fl n s) (W o - u.1 o)) k s).1 o = W o := by
        intro k
        induction k with
        | zero => exact fun z => absurd z (Nat.not_lt_zero o)
        | succ k ih =>
          intro hok
          by_cases hkk : o = k
          · subst hkk
            have hat : (pass (fun u o => yt M O W fl u.1 o) (fun u o => leI ((s.2 - fl) / evC M O W fl n s) (W o - u.1 o)) o s).1 o = s.1 o := pass_at o o (Nat.le_refl o)
            rw [pass, if_pos (by rw [← hy]; exact yt_at hat)]
            show upd _ o _ o = _
            rw [pk_us, hat, hle]
            grind
          · rw [pass]
            by_cases hs : yt M O W fl (pass (fun u o => yt M O W fl u.1 o) (fun u o => leI ((s.2 - fl) / evC M O W fl n s) (W o - u.1 o)) k s).1 k = true
            · rw [if_pos hs]
              show upd _ k _ o = _
              rw [pk_un hkk]
              exact ih (by omega)
            · rw [if_neg hs]
              exact ih (by omega)
      exact hk n ho
    cases hz : yt M O W fl (evNx M O W fl n s).1 o
    · rfl
    · have := (yt_i.mp hz).2.2
      rw [hW, fa_lt] at this
      exact absurd this (Int.lt_irrefl _)
theorem ev_stop {G : Nat → Int32} : ∀ (j : Nat) (s : (Nat → Int32) × Int32), PI n W N s → Sm M O W fl n G s → -100000 ≤ fl.toInt → fl.toInt ≤ 100000 → cN (yt M O W fl s.1) n < j → evStop M O W fl n j s
  | 0, _, _, _, _, _, hj => absurd hj (Nat.not_lt_zero _)
  | j + 1, s, h, hS, f1, f2, hj => fun hg => by
    have hc := of_decide_eq_true hg
    have hl := h.left
    have c1 := (fa_lt _ _).mp hc.1
    have c2 := (fa_le _ _).mp hc.2
    rw [iT0] at c1
    have he : 0 ≤ ((s.2 - fl) / evC M O W fl n s).toInt := by
      rw [iT_div (by omega) c1]
      exact Int.ediv_nonneg (by omega) (by omega)
    rcases ev_step h hS f1 f2 hg with hlt | hno
    · exact ev_stop j _ (PI_pass h (fun u o ho hu _ => even_rng hu ho he) n (Nat.le_refl n)) (Sm_pass hS n) f1 f2 (by omega)
    · exact evStop_no j hno
/-- one each -/
def onS (W : Nat → Int32) (x : ((Nat → Int32) × Int32) × Int32) (o : Nat) : ((Nat → Int32) × Int32) × Int32 := if 0 < x.2 ∧ x.1.1 o < W o then (gv x.1 o 1, x.2 + (-1)) else x
theorem onL_fold {gr : Nat → Nat} {y : ((Nat → Int32) × Int32) × Int32} : ∀ c, onL gr W c y = foldL gr (onS W) c y
  | 0 => rfl
  | c + 1 => by rw [onL, foldL, onL_fold c, onS]
theorem one_rng {u : (Nat → Int32) × Int32} (h : PI n W N u) (ho : o < n) (hy : u.1 o < W o) : 0 ≤ (1 : Int32).toInt ∧ (1 : Int32).toInt ≤ (W o).toInt - (u.1 o).toInt := by
  rw [fa_lt] at hy
  rw [iT1]
  omega
theorem on_fold {G : Nat → Int32} (h : PI n W N s) (hS : Sm M O W fl n G s) (f1 : -100000 ≤ fl.toInt) (f2 : fl.toInt ≤ 100000) : ∀ k, k ≤ n → foldB (yt M O W fl G) (onS W) k (s, s.2 - fl) = (pass (fun s o => decide (fl < s.2) && yt M O W fl s.1 o) (fun _ _ => 1) k s, (pass (fun s o => decide (fl < s.2) && yt M O W fl s.1 o) (fun _ _ => 1) k s).2 - fl)
  | 0, _ => rfl
  | k + 1, hk => by
    have ih := on_fold h hS f1 f2 k (by omega)
    have hat : (pass (fun s o => decide (fl < s.2) && yt M O W fl s.1 o) (fun _ _ => 1) k s).1 k = s.1 k := pass_at k k (Nat.le_refl k)
    have hPI : PI n W N (pass (fun s o => decide (fl < s.2) && yt M O W fl s.1 o) (fun _ _ => 1) k s) := PI_pass h (fun u o ho hu hs => one_rng hu ho (yt_i.mp (Bool.and_eq_true _ _ ▸ hs).2).2.2) k (by omega)
    rw [foldB, pass, ih]
    generalize pass (fun s o => decide (fl < s.2) && yt M O W fl s.1 o) (fun _ _ => 1) k s = u at hat hPI
    have hl := hPI.left
    have hpos : (0 < u.2 - fl) ↔ fl < u.2 := by
      rw [fa_lt, fa_lt, iT0, fb_subI (by omega) (by omega)]
      omega
    by_cases hg : yt M O W fl G k = true
    · have hg2 := yt_i.mp hg
      rw [if_pos hg, onS]
      by_cases hc : 0 < u.2 - fl ∧ u.1 k < W k
      · rw [if_pos hc, if_pos (by rw [Bool.and_eq_true, decide_eq_true_eq]; exact ⟨hpos.mp hc.1, yt_i.mpr ⟨hg2.1, hg2.2.1, hc.2⟩⟩)]
        refine congrArg (fun z => (gv u k 1, z)) ?_
        show u.2 - fl + -1 = u.2 - 1 - fl
        grind
      · rw [if_neg hc, if_neg (fun z => hc (by rw [Bool.and_eq_true, decide_eq_true_eq] at z; exact ⟨hpos.mpr z.1, (yt_i.mp z.2).2.2⟩))]
    · rw [if_neg hg, if_neg (fun z => hg (by rw [Bool.and_eq_true] at z; exact yt_Sm hS (by omega) (by rw [← z.2]; exact yt_at hat.symm)))]
theorem onF_inv (h : PI n W N s) : PI n W N (onF M O W fl n s) := PI_pass h (fun u o ho hu hs => one_rng hu ho (yt_i.mp (Bool.and_eq_true _ _ ▸ hs).2).2.2) n (Nat.le_refl n)
theorem pass_M {sel : (Nat → Int32) × Int32 → Nat → Bool} {amt : (Nat → Int32) × Int32 → Nat → Int32} (h : ∀ u o, sel u o = true → M o = true) {j : Nat} (hj : M j = false) (k : Nat) : (pass sel amt k s).1 j = s.1 j :=
  pass_off (fun u _ => by
    cases hz : sel u j
    · rfl
    · exact absurd ((h u j hz).symm.trans hj) (by decide)) k
theorem evs_M {j : Nat} (hj : M j = false) : ∀ (k : Nat) (s : (Nat → Int32) × Int32), (evs M O W fl n k s).1 j = s.1 j
  | 0, _ => rfl
  | k + 1, s => by
    rw [evs]
    split
    · rw [evs_M hj k]
      exact pass_M (M := M) (fun u o z => (yt_i.mp z).1) hj n
    · rfl
theorem poolF_M {ev : Bool} {k j : Nat} (hj : M j = false) : (poolF ev k M O W fl n s).1 j = s.1 j := by
  unfold poolF
  split
  · rfl
  · split
    · exact pass_M (M := M) (fun u o z => (yt_i.mp z).1) hj n
    · unfold onF
      rw [pass_M (M := M) (fun u o z => (yt_i.mp (Bool.and_eq_true _ _ ▸ z).2).1) hj n]
      split
      · exact evs_M hj k s
      · exact pass_M (M := M) (fun u o z => (yt_i.mp z).1) hj n
theorem gaF_eq {G : Nat → Int32} (hO : ∀ o, o < n → M o = true → O' o = O o) : gaF (grF M n) (cN M n) O' W fl G = (grF (yt M O W fl G) n, cN (yt M O W fl G) n, sumB (yt M O W fl G) (fun o => W o - G o) n) := by
  have hs : ∀ o, o < n → (M o && (decide (O' o ≤ fl) && decide (G o < W o))) = yt M O W fl G o := by
    intro o ho
    unfold yt
    cases hM : M o
    · rfl
    · rw [hO o ho hM]
      rfl
  unfold gaF
  rw [foldL_grF, gaS_fold, (cN_cg n hs).1, (cN_cg n hs).2, sumB_cg n hs]
/-- a pool: class and reference -/
theorem pool_eq {ev : Int32} (h : PI n W N s) (hO : ∀ o, o < n → M o = true → O' o = O o) (f1 : -100000 ≤ fl.toInt) (f2 : fl.toInt ≤ 100000) (hev : ev = 0 ∨ ev = 1) : poolC ev (gaF (grF M n) (cN M n) O' W fl s.1) W fl s = poolF (decide (ev = 1)) 7 M O W fl n s ∧ poolOK (decide (ev = 1)) 7 M O W fl n s ∧ PI n W N (poolF (decide (ev = 1)) 7 M O W fl n s) := by
  have hl := h.left
  have hn := h.2.2.1
  have hS : Sm M O W fl n s.1 s := fun o _ _ => rfl
  have hsub : (s.2 - fl).toInt = s.2.toInt - fl.toInt := fb_subI (by omega) (by omega)
  have hwt : ∀ o, o < n → yt M O W fl s.1 o = true → 0 < (W o - s.1 o).toInt ∧ (W o - s.1 o).toInt ≤ 999999 := by
    intro o ho hy
    have hy := (fa_lt _ _).mp (yt_i.mp hy).2.2
    have ho1 := h.1 o ho
    rw [fb_subI (by omega) (by omega)]
    omega
  obtain ⟨hs1, hs2, hs3⟩ := sumB_T (f := yt M O W fl s.1) (w := fun o => W o - s.1 o) n hn (fun o ho hy => ⟨by have := hwt o ho hy; show 0 ≤ (W o - s.1 o).toInt; omega, (hwt o ho hy).2⟩)
  have hcle := cN_le (yt M O W fl s.1) n
  rw [gaF_eq hO]
  have hpy : ∀ amt, pass (fun _ o => yt M O W fl s.1 o) amt n s = pass (fun u o => yt M O W fl u.1 o) amt n s := fun amt => pass_cg n (fun u o ho hu => (yt_at hu).symm) (fun _ _ _ _ _ => rfl)
  unfold poolC poolF poolOK
  by_cases c1 : s.2 ≤ fl
  · have c1' : s.2 - fl ≤ 0 := by
      rw [fa_le] at c1
      rw [fa_le, hsub, iT0]
      omega
    rw [if_pos c1, if_pos (Or.inl c1')]
    exact ⟨rfl, fun z => absurd c1 z, h⟩
  · have c1' : ¬ s.2 - fl ≤ 0 := by
      rw [fa_le] at c1
      rw [fa_le, hsub, iT0]
      omega
    rw [if_neg c1]
    by_cases c2 : sumB (yt M O W fl s.1) (fun o => W o - s.1 o) n ≤ 0
    · have c2z : (sumB (yt M O W fl s.1) (fun o => W o - s.1 o) n).toInt = 0 := by
        rw [fa_le, iT0] at c2
        omega
      have c3 : sumB (yt M O W fl s.1) (fun o => W o - s.1 o) n ≤ s.2 - fl := by
        rw [fa_le] at c1' ⊢
        rw [iT0] at c1'
        omega
      have hno : ∀ o, o < n → yt M O W fl s.1 o = false := by
        intro o ho
        cases hy : yt M O W fl s.1 o
        · rfl
        · have a1 := hs3 c2z o ho hy
          have a2 := (hwt o ho hy).1
          change (W o - s.1 o).toInt = 0 at a1
          omega
      rw [if_pos (Or.inr c2), if_pos c3, pass_none n (fun u o ho hu => (yt_at hu).trans (hno o ho))]
      exact ⟨rfl, fun _ z => absurd c3 z, h⟩
    · rw [if_neg (fun z => z.elim c1' c2)]
      by_cases c3 : sumB (yt M O W fl s.1) (fun o => W o - s.1 o) n ≤ s.2 - fl
      · rw [if_pos c3, if_pos c3, passL_fold, foldL_grF, ← pass_fold, hpy]
        refine ⟨rfl, fun _ z => absurd c3 z, PI_pass h (fun u o ho hu hy => ?_) n (Nat.le_refl n)⟩
        have hu1 := hu.1 o ho
        rw [fb_subI (by omega) (by omega)]
        omega
      · rw [if_neg c3, if_neg c3]
        have hst : evStop M O W fl n 7 s := ev_stop 7 s h hS f1 f2 (by omega)
        have hnz : ¬ sumB (yt M O W fl s.1) (fun o => W o - s.1 o) n = 0 := fun z => c2 (by rw [z, fa_le]; omega)
        have hon : ∀ t, PI n W N t → Sm M O W fl n s.1 t → (onL (grF (yt M O W fl s.1) n) W (cN (yt M O W fl s.1) n) (t, t.2 - fl)).1 = onF M O W fl n t := by
          intro t ht hSt
          rw [onL_fold, foldL_grF, on_fold ht hSt f1 f2 n (Nat.le_refl n)]
          rfl
        show (onL (grF (yt M O W fl s.1) n) W (cN (yt M O W fl s.1) n) (_, (_ : (Nat → Int32) × Int32).2 - fl)).1 = _ ∧ _
        rcases hev with rfl | rfl
        · rw [if_pos rfl, decide_eq_false (by decide), if_neg (by decide), passL_fold, foldL_grF, ← pass_fold, hpy]
          have hP : 0 ≤ (s.2 - fl).toInt := by rw [fa_le, iT0] at c1'; omega
          have hA : 0 < (sumB (yt M O W fl s.1) (fun o => W o - s.1 o) n).toInt := by rw [fa_le, iT0] at c2; omega
          have hPA : (s.2 - fl).toInt ≤ (sumB (yt M O W fl s.1) (fun o => W o - s.1 o) n).toInt := by rw [fa_le] at c3; omega
          have hpi : PI n W N (paF M O W fl n s) := PI_pass h (fun u o ho hu hy => by
            have hu1 := hu.1 o ho
            have hw : (W o - u.1 o).toInt = (W o).toInt - (u.1 o).toInt := fb_subI (by omega) (by omega)
            have := part_rng (P := s.2 - fl) (w := W o - u.1 o) (A := sumB (yt M O W fl s.1) (fun o => W o - s.1 o) n) hP hPA hA (by omega) (by omega)
            rw [hw] at this
            exact this) n (Nat.le_refl n)
          exact ⟨hon _ hpi (Sm_pass hS n), fun _ _ => ⟨fun z => absurd z (by decide), fun _ => hnz⟩, onF_inv hpi⟩
        · rw [if_neg (by decide), decide_eq_true rfl, if_pos rfl]
          have hev := evs_inv 7 s h hS f1 f2
          rw [← cntF_N]
          have := evL_evs 7 s h hS f1 f2
          unfold evC at this
          rw [this]
          exact ⟨hon _ hev.1 hev.2, fun _ _ => ⟨fun _ => hst, fun z => absurd z (by decide)⟩, onF_inv hev.1⟩
end POOL2
