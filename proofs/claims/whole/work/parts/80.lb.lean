/-! the bounds of what was read -/
def TabR (R : Nat → Int32) (t m : Nat) : Prop := m ≤ 6 ∧ (∀ i, i < m → 0 ≤ (R (12 + 6 * t + i)).toInt ∧ (R (12 + 6 * t + i)).toInt ≤ 9999 ∧ 0 ≤ (R (30 + 6 * t + i)).toInt ∧ (R (30 + 6 * t + i)).toInt ≤ 99) ∧ ∀ i, i + 1 < m → (R (12 + 6 * t + i)).toInt < (R (12 + 6 * t + (i + 1))).toInt
def OrdR (R : Nat → Int32) (nt o : Nat) : Prop :=
  (∃ j, 1 ≤ j ∧ j ≤ 9 ∧ R (51 + o) = nI j) ∧ (0 ≤ (R (57 + o)).toInt ∧ (R (57 + o)).toInt ≤ 999) ∧ (0 ≤ (R (63 + o)).toInt ∧ (R (63 + o)).toInt ≤ 99999) ∧
  (R (69 + o) = 0 ∧ 1 ≤ (R (75 + o)).toInt ∧ (R (75 + o)).toInt ≤ 999 ∨ R (69 + o) = 1 ∧ (∃ a, a < nt ∧ R (75 + o) = nI a) ∨ R (69 + o) = 2 ∧ 1 ≤ (R (75 + o)).toInt ∧ (R (75 + o)).toInt ≤ 99)
def RB (R : Nat → Int32) (nt np no : Nat) : Prop :=
  (nt ≤ 3 ∧ np ≤ 3 ∧ no ≤ 6) ∧ (R 3 = nI nt ∧ R 4 = nI np ∧ R 5 = nI no) ∧ (∀ t, t < nt → ∃ m, R (9 + t) = nI m ∧ TabR R t m ∧ (R (6 + t) = 0 ∨ R (6 + t) = 1)) ∧
  ((0 ≤ (R 0).toInt ∧ (R 0).toInt ≤ 999) ∧ (0 ≤ (R 1).toInt ∧ (R 1).toInt ≤ 99) ∧ (R 2 = 0 ∨ R 2 = 1)) ∧ (∀ p, p < np → 1 ≤ (R (48 + p)).toInt ∧ (R (48 + p)).toInt ≤ 4) ∧ ∀ o, o < no → OrdR R nt o
section LB
variable {f : Nat → Int32} {N i n k m t o p nt np no j : Nat} {s : PS} {w : Int64} {lo hi x c : Int32} {R R' : Nat → Int32}
theorem TabR_cg (h : ∀ i, 12 + 6 * t ≤ i → i < 18 + 6 * t → R' i = R i) (h' : ∀ i, 30 + 6 * t ≤ i → i < 36 + 6 * t → R' i = R i) (hT : TabR R t m) : TabR R' t m := by
  obtain ⟨h1, h2, h3⟩ := hT
  refine ⟨h1, fun i hi => ?_, fun i hi => ?_⟩
  · rw [h _ (by omega) (by omega), h' _ (by omega) (by omega)]
    exact h2 i hi
  · rw [h _ (by omega) (by omega), h _ (by omega) (by omega)]
    exact h3 i hi
theorem OrdR_cg (h : ∀ j, j < 5 → R' (51 + 6 * j + o) = R (51 + 6 * j + o)) (hn : nt ≤ n) (hT : OrdR R nt o) : OrdR R' n o := by
  obtain ⟨h1, h2, h3, h4⟩ := hT
  have e0 : R' (51 + o) = R (51 + o) := h 0 (by omega)
  have e1 : R' (57 + o) = R (57 + o) := h 1 (by omega)
  have e2 : R' (63 + o) = R (63 + o) := h 2 (by omega)
  have e3 : R' (69 + o) = R (69 + o) := h 3 (by omega)
  have e4 : R' (75 + o) = R (75 + o) := h 4 (by omega)
  unfold OrdR
  rw [e0, e1, e2, e3, e4]
  refine ⟨h1, h2, h3, ?_⟩
  rcases h4 with h4 | ⟨h4, a, ha, h5⟩ | h4
  · exact Or.inl h4
  · exact Or.inr (Or.inl ⟨h4, a, by omega, h5⟩)
  · exact Or.inr (Or.inr h4)
theorem w_rng (h : lo.toInt64 ≤ w ∧ w ≤ hi.toInt64) : lo.toInt ≤ w.toInt32.toInt ∧ w.toInt32.toInt ≤ hi.toInt ∧ w.toInt32.toInt64 = w := by
  rw [Int64.le_iff_toInt_le, Int64.le_iff_toInt_le, Int32.toInt_toInt64, Int32.toInt_toInt64] at h
  have h1 := Int32.le_toInt lo
  have h2 := Int32.toInt_lt hi
  have e : w.toInt32.toInt = w.toInt := by
    rw [Int64.toInt_toInt32]
    exact Int.bmod_eq_of_le (by omega) (by omega)
  refine ⟨by omega, by omega, ?_⟩
  apply Int64.toInt_inj.mp
  rw [Int32.toInt_toInt64, e]
/-- the number that a step reads -/
abbrev vlP (s : PS) : Int32 := s.2.1.2.2.2.toInt32
theorem whole_v (h : (wholeP f N lo hi s).1 = 0) : lo.toInt ≤ (vlP s).toInt ∧ (vlP s).toInt ≤ hi.toInt := ⟨(w_rng (whole_0 h).2.2.1).1, (w_rng (whole_0 h).2.2.1).2.1⟩
theorem pt_0 (h : (pt f N w lo hi k s).1 = 0) : s.1 = 0 ∧ (needsP f N w s).1 = 0 ∧ (wholeP f N lo hi (needsP f N w s)).1 = 0 ∧ (lo.toInt ≤ (vlP (needsP f N w s)).toInt ∧ (vlP (needsP f N w s)).toInt ≤ hi.toInt) ∧ (pt f N w lo hi k s).2.2.2.2 = upd s.2.2.2.2 k (vlP (needsP f N w s)) := by
  rw [pt_u] at h ⊢
  have h1 : (wholeP f N lo hi (needsP f N w s)).1 = 0 := d_setR.2.2.1.symm.trans h
  have h2 := whole_0 h1
  refine ⟨(needs_0 h2.1).1, h2.1, h1, whole_v h1, ?_⟩
  rw [setR_R h1, d_whole, d_needs]
theorem desk_0 (h : (deskP f N s).1 = 0) : s.1 = 0 ∧ s.2.2.1 = false ∧ (deskP f N s).2.2.1 = true ∧ (deskP f N s).2.2.2.1 = s.2.2.2.1 ∧
    ∃ a b : Int32, a = vlP (needsP f N (Wo 2) (advP f N s)) ∧ b = vlP (needsP f N (Wo 3) (pt f N (Wo 2) 0 999 0 (advP f N s))) ∧ (0 ≤ a.toInt ∧ a.toInt ≤ 999) ∧ (0 ≤ b.toInt ∧ b.toInt ≤ 99) ∧ (deskP f N s).2.2.2.2 = upd (upd (upd s.2.2.2.2 0 a) 1 b) 2 (bI (isWP (dsk4P f N s) (Wo 5))) := by
  rw [deskP_u] at h ⊢
  have h1 : (setR 2 (bI (isWP (dsk4P f N s) (Wo 5))) (howP f N (Wo 5) (Wo 6) (dsk4P f N s))).1 = 0 := by
    rw [setD_u] at h
    split at h
    · rename_i z; exact z
    · exact h
  have h2 : (howP f N (Wo 5) (Wo 6) (dsk4P f N s)).1 = 0 := d_setR.2.2.1.symm.trans h1
  have h3 := (how_0 h2).1
  have e : (if s.2.2.1 = true then flawP 4 s else s) = s ∧ s.2.2.1 = false := by
    cases hb : s.2.2.1
    · exact ⟨if_neg (by decide), rfl⟩
    · exfalso
      rw [dsk4P_u] at h3
      rw [hb, if_pos rfl, fz_adv (flaw_0 (by decide)), fz_pt (flaw_0 (by decide)), fz_pt (flaw_0 (by decide)), fz_needs (flaw_0 (by decide))] at h3
      exact flaw_0 (by decide) h3
  have hn := h3
  rw [dsk4P_u] at hn
  rw [e.1] at hn
  have h4 := pt_0 (needs_0 hn).1
  have h5 := pt_0 h4.1
  have ed : (dsk4P f N s).2.2 = (s.2.2.1, s.2.2.2.1, upd (upd s.2.2.2.2 0 (vlP (needsP f N (Wo 2) (advP f N s)))) 1 (vlP (needsP f N (Wo 3) (pt f N (Wo 2) 0 999 0 (advP f N s))))) := by
    rw [dsk4P_u]
    rw [e.1, d_needs]
    refine Prod.ext ?_ (Prod.ext ?_ ?_)
    · rw [d_pt.1, d_pt.1, d_adv]
    · rw [d_pt.2, d_pt.2, d_adv]
    · rw [h4.2.2.2.2, h5.2.2.2.2, d_adv]
  have es : (setD (setR 2 (bI (isWP (dsk4P f N s) (Wo 5))) (howP f N (Wo 5) (Wo 6) (dsk4P f N s)))).2.2 = (true, s.2.2.2.1, upd (upd (upd s.2.2.2.2 0 (vlP (needsP f N (Wo 2) (advP f N s)))) 1 (vlP (needsP f N (Wo 3) (pt f N (Wo 2) 0 999 0 (advP f N s))))) 2 (bI (isWP (dsk4P f N s) (Wo 5)))) := by
    rw [setD_u]
    rw [if_pos h1]
    refine Prod.ext rfl (Prod.ext ?_ ?_)
    · show (setR 2 _ _).2.2.2.1 = _
      rw [d_setR.2.1, d_how, ed]
    · show (setR 2 _ _).2.2.2.2 = _
      rw [setR_R h2, d_how, ed]
  rw [es]
  exact ⟨adv_0 h5.1, e.2, rfl, rfl, _, _, rfl, rfl, h5.2.2.2.1, h4.2.2.2.1, rfl⟩
theorem pay_0 (h : (payP f N p s).1 = 0) : s.1 = 0 ∧ ¬ p = 3 ∧ s.2.2.1 = true ∧ gP p 3 s = s ∧ (newP f N 3 p (advP f N s)).1 = 0 ∧
    ∃ a : Int32, a = vlP (needsP f N (Wo 14) (newP f N 3 p (advP f N s))) ∧ (1 ≤ a.toInt ∧ a.toInt ≤ 4) ∧ (payP f N p s).2.2.1 = true ∧ (payP f N p s).2.2.2.1 = (newP f N 3 p (advP f N s)).2.2.2.1 ∧ (payP f N p s).2.2.2.2 = upd (upd s.2.2.2.2 (48 + p) a) 4 (nI (p + 1)) := by
  rw [payP_u] at h ⊢
  have h1 : (pt f N (Wo 14) 1 4 (48 + p) (newP f N 3 p (advP f N (gP p 3 s)))).1 = 0 := d_setR.2.2.1.symm.trans h
  have h2 := pt_0 h1
  have h3 := new_0 h2.1
  have h4 := g_0 (adv_0 h3.1)
  rw [setR_R h1, d_setR.1, d_setR.2.1, d_pt.1, d_pt.2, h2.2.2.2.2, d_new.1, d_new.2, d_adv, h4.2.2.2]
  rw [h4.2.2.2] at h2
  exact ⟨h4.1, h4.2.1, h4.2.2.1, rfl, h2.1, _, rfl, h2.2.2.2.1, h4.2.2.1, rfl, rfl⟩
/-- the order of a line: kind and sum -/
theorem kind_0 (hnt : nt ≤ 3) (h : (kindP f N nt o s).1 = 0) : s.1 = 0 ∧ (kindP f N nt o s).2.2.1 = s.2.2.1 ∧ (kindP f N nt o s).2.2.2.1 = s.2.2.2.1 ∧ ∃ a b : Int32, (kindP f N nt o s).2.2.2.2 = upd (upd s.2.2.2.2 (69 + o) a) (75 + o) b ∧
    (a = 0 ∧ 1 ≤ b.toInt ∧ b.toInt ≤ 999 ∨ a = 1 ∧ (∃ c, c < nt ∧ b = nI c) ∨ a = 2 ∧ 1 ≤ b.toInt ∧ b.toInt ≤ 99) := by
  rw [kindP_u] at h ⊢
  split at h
  · rename_i hw
    rw [if_pos hw]
    have h1 : (knownP f N 0 nt (setR (69 + o) 1 (advP f N s))).1 = 0 := d_setR.2.2.1.symm.trans h
    have h2 := known_0 h1
    have h3 : (advP f N s).1 = 0 := d_setR.2.2.1.symm.trans h2.1
    rw [setR_R h1, d_setR.1, d_setR.2.1, d_known, d_setR.1, d_setR.2.1, setR_R h3, d_adv]
    have e : fnP (setR (69 + o) 1 (advP f N s)) 0 nt = fnP (advP f N s) 0 nt := by rw [fnP_u, fnP_u, d_setR.2.2.2, d_setR.2.1]
    rw [e] at h2
    exact ⟨adv_0 h3, rfl, rfl, _, _, rfl, Or.inr (Or.inl ⟨rfl, fn_in (by omega) h2.2.2.1⟩)⟩
  · rename_i hw
    rw [if_neg hw]
    split at h
    · rename_i hw2
      rw [if_pos hw2]
      have h1 : (wholeP f N 1 99 (setR (69 + o) 2 (advP f N s))).1 = 0 := d_setR.2.2.1.symm.trans h
      have h2 := whole_0 h1
      have h3 : (advP f N s).1 = 0 := d_setR.2.2.1.symm.trans h2.1
      have h4 := whole_v h1
      unfold vlP at h4
      rw [d_setR.2.2.2] at h4
      rw [setR_R h1, d_setR.1, d_setR.2.1, d_whole, d_setR.1, d_setR.2.1, setR_R h3, d_adv]
      exact ⟨adv_0 h3, rfl, rfl, _, _, rfl, Or.inr (Or.inr ⟨rfl, h4⟩)⟩
    · rename_i hw2
      rw [if_neg hw2]
      split at h
      · rename_i hw3
        rw [if_pos hw3]
        have h1 : (wholeP f N 1 999 (setR (69 + o) 0 (advP f N s))).1 = 0 := d_setR.2.2.1.symm.trans h
        have h2 := whole_0 h1
        have h3 : (advP f N s).1 = 0 := d_setR.2.2.1.symm.trans h2.1
        have h4 := whole_v h1
        unfold vlP at h4
        rw [d_setR.2.2.2] at h4
        rw [setR_R h1, d_setR.1, d_setR.2.1, d_whole, d_setR.1, d_setR.2.1, setR_R h3, d_adv]
        exact ⟨adv_0 h3, rfl, rfl, _, _, rfl, Or.inl ⟨rfl, h4⟩⟩
      · exact absurd h (flaw_0 (by decide))
theorem at_0 (h : (atP f N np o s).1 = 0) : s.1 = 0 ∧ (atP f N np o s).2.2.1 = s.2.2.1 ∧ (atP f N np o s).2.2.2.1 = s.2.2.2.1 ∧ ∃ a : Int32, (atP f N np o s).2.2.2.2 = upd s.2.2.2.2 (81 + o) a := by
  rw [atP_u] at h ⊢
  split at h
  · rename_i hw
    rw [if_pos hw]
    have h1 : s.1 = 0 := d_setR.2.2.1.symm.trans (adv_0 h)
    rw [d_adv, d_setR.1, d_setR.2.1, setR_R h1]
    exact ⟨h1, rfl, rfl, _, rfl⟩
  · rename_i hw
    rw [if_neg hw]
    have h1 : (knownP f N 3 np s).1 = 0 := d_setR.2.2.1.symm.trans h
    rw [setR_R h1, d_setR.1, d_setR.2.1, d_known]
    exact ⟨(known_0 h1).1, rfl, rfl, _, rfl⟩
theorem ord_0 (hnt : nt ≤ 3) (h : (ordP f N nt np o s).1 = 0) : s.1 = 0 ∧ ¬ o = 6 ∧ s.2.2.1 = true ∧ gP o 6 s = s ∧ (newP f N 6 o (advP f N s)).1 = 0 ∧ (kindP f N nt o (ord5P f N o s)).1 = 0 ∧ (atP f N np o (needsP f N (Wo 18) (kindP f N nt o (ord5P f N o s)))).1 = 0 ∧ (ord5P f N o s).1 = 0 ∧
    (ordP f N nt np o s).2.2.1 = true ∧ (ordP f N nt np o s).2.2.2.1 = (newP f N 6 o (advP f N s)).2.2.2.1 ∧
    ∃ v1 v2 v3 a b c : Int32, (1 ≤ v1.toInt ∧ v1.toInt ≤ 9) ∧ (0 ≤ v2.toInt ∧ v2.toInt ≤ 999) ∧ (0 ≤ v3.toInt ∧ v3.toInt ≤ 99999) ∧ (a = 0 ∧ 1 ≤ b.toInt ∧ b.toInt ≤ 999 ∨ a = 1 ∧ (∃ c, c < nt ∧ b = nI c) ∨ a = 2 ∧ 1 ≤ b.toInt ∧ b.toInt ≤ 99) ∧
      (ord5P f N o s).2.2.2.2 = upd (upd (upd s.2.2.2.2 (51 + o) v1) (57 + o) v2) (63 + o) v3 ∧ (ordP f N nt np o s).2.2.2.2 = upd (upd (upd (upd (upd (upd (upd s.2.2.2.2 (51 + o) v1) (57 + o) v2) (63 + o) v3) (69 + o) a) (75 + o) b) (81 + o) c) 5 (nI (o + 1)) := by
  rw [ordP_u] at h ⊢
  have h1 : (atP f N np o (needsP f N (Wo 18) (kindP f N nt o (ord5P f N o s)))).1 = 0 := d_setR.2.2.1.symm.trans h
  obtain ⟨h2, e1, e2, c, e3⟩ := at_0 h1
  have h3 := (needs_0 h2).1
  obtain ⟨h4, e4, e5, a, b, e6, hab⟩ := kind_0 hnt h3
  have h4' := h4
  rw [ord5P_u] at h4
  have h5 := pt_0 h4
  have h6 := pt_0 h5.1
  have h7 := pt_0 h6.1
  have h8 := new_0 h7.1
  have h9 := g_0 (adv_0 h8.1)
  have e7 : (ord5P f N o s).2.2.2.2 = upd (upd (upd s.2.2.2.2 (51 + o) (vlP (needsP f N (Wo 15) (newP f N 6 o (advP f N (gP o 6 s)))))) (57 + o) (vlP (needsP f N (Wo 2) (pt f N (Wo 15) 1 9 (51 + o) (newP f N 6 o (advP f N (gP o 6 s))))))) (63 + o) (vlP (needsP f N (Wo 16) (pt f N (Wo 2) 0 999 (57 + o) (pt f N (Wo 15) 1 9 (51 + o) (newP f N 6 o (advP f N (gP o 6 s))))))) := by
    rw [ord5P_u]
    rw [h5.2.2.2.2, h6.2.2.2.2, h7.2.2.2.2, d_new.2, d_adv, d_g]
  have e8 : (ord5P f N o s).2.2.1 = true := by
    rw [ord5P_u]
    rw [d_pt.1, d_pt.1, d_pt.1, d_new.1, d_adv, d_g]
    exact h9.2.2.1
  have e9 : (ord5P f N o s).2.2.2.1 = (newP f N 6 o (advP f N s)).2.2.2.1 := by
    rw [ord5P_u]
    rw [d_pt.2, d_pt.2, d_pt.2, h9.2.2.2]
  refine ⟨h9.1, h9.2.1, h9.2.2.1, h9.2.2.2, by rw [← h9.2.2.2]; exact h7.1, h3, h1, h4', ?_, ?_, _, _, _, a, b, c, h7.2.2.2.1, h6.2.2.2.1, h5.2.2.2.1, hab, e7, ?_⟩
  · rw [d_setR.1, e1, d_needs, e4, e8]
  · rw [d_setR.2.1, e2, d_needs, e5, e9]
  · rw [setR_R h1, e3, d_needs, e6, e7]
theorem rowP_0 (h : (rowP f N t m lo s).1 = 0) : s.1 = 0 ∧ (rowP f N t m lo s).2.2.1 = s.2.2.1 ∧ (rowP f N t m lo s).2.2.2.1 = s.2.2.2.1 ∧ (wholeP f N lo 9999 (advP f N s)).1 = 0 ∧ (needsP f N (Wo 13) (wholeP f N lo 9999 (advP f N s))).1 = 0 ∧ (wholeP f N 0 99 (needsP f N (Wo 13) (wholeP f N lo 9999 (advP f N s)))).1 = 0 ∧
    (rowP f N t m lo s).2.2.2.2 = upd (upd s.2.2.2.2 (12 + 6 * t + m) (vlP (advP f N s))) (30 + 6 * t + m) (vlP (needsP f N (Wo 13) (wholeP f N lo 9999 (advP f N s)))) := by
  rw [rowP_u] at h ⊢
  have h1 : (wholeP f N 0 99 (needsP f N (Wo 13) (wholeP f N lo 9999 (advP f N s)))).1 = 0 := d_setR.2.2.1.symm.trans (d_setR.2.2.1.symm.trans h)
  have h2 := whole_0 h1
  have h3 := needs_0 h2.1
  have h4 := whole_0 h3.1
  have h5 : (setR (12 + 6 * t + m) (advP f N s).2.1.2.2.2.toInt32 (wholeP f N 0 99 (needsP f N (Wo 13) (wholeP f N lo 9999 (advP f N s))))).1 = 0 := d_setR.2.2.1.trans h1
  refine ⟨adv_0 h4.1, ?_, ?_, h3.1, h2.1, h1, ?_⟩
  · rw [d_setR.1, d_setR.1, d_whole, d_needs, d_whole, d_adv]
  · rw [d_setR.2.1, d_setR.2.1, d_whole, d_needs, d_whole, d_adv]
  · rw [setR_R h5, setR_R h1, d_whole, d_needs, d_whole, d_adv]
/-- the rows of a table -/
def LowOK (R : Nat → Int32) (t m : Nat) (lo : Int32) : Prop := m = 0 ∧ lo = 0 ∨ ∃ k, m = k + 1 ∧ lo = R (12 + 6 * t + k) + 1
theorem row_TabR (hm : m < 6) (hT : TabR s.2.2.2.2 t m) (hl : LowOK s.2.2.2.2 t m lo) (h : (rowP f N t m lo s).1 = 0) : TabR (rowP f N t m lo s).2.2.2.2 t (m + 1) ∧ LowOK (rowP f N t m lo s).2.2.2.2 t (m + 1) (vlP (advP f N s) + 1) := by
  obtain ⟨_, _, _, h1, h2, h3, e⟩ := rowP_0 h
  have a1 := whole_v h1
  have a2 := whole_v h3
  obtain ⟨t1, t2, t3⟩ := hT
  rw [e]
  have l0 : (0 : Int32).toInt = 0 := rfl
  have l9 : (9999 : Int32).toInt = 9999 := rfl
  have l99 : (99 : Int32).toInt = 99 := rfl
  have hlo : 0 ≤ lo.toInt ∧ ∀ k, m = k + 1 → (s.2.2.2.2 (12 + 6 * t + k)).toInt < lo.toInt := by
    rcases hl with ⟨z1, z2⟩ | ⟨k, z1, z2⟩
    · rw [z2]
      exact ⟨by decide, fun k z => by omega⟩
    · have := t2 k (by omega)
      have e1 : lo.toInt = (s.2.2.2.2 (12 + 6 * t + k)).toInt + 1 := by
        rw [z2, fb_addI (by rw [show (1 : Int32).toInt = 1 from rfl]; omega) (by rw [show (1 : Int32).toInt = 1 from rfl]; omega)]
        rfl
      refine ⟨by omega, fun k' z => ?_⟩
      obtain rfl : k' = k := by omega
      omega
  refine ⟨⟨by omega, fun i hi => ?_, fun i hi => ?_⟩, Or.inr ⟨m, rfl, by rw [pk_un (by omega), pk_us]⟩⟩
  · by_cases him : i = m
    · subst him
      rw [pk_un (by omega), pk_us, pk_us]
      omega
    · rw [pk_un (by omega), pk_un (by omega), pk_un (by omega), pk_un (by omega)]
      exact t2 i (by omega)
  · by_cases him : i + 1 = m
    · subst him
      rw [pk_un (by omega), pk_un (by omega), pk_un (by omega), pk_us]
      have := hlo.2 i rfl
      omega
    · rw [pk_un (by omega), pk_un (by omega), pk_un (by omega), pk_un (by omega)]
      exact t3 i (by omega)
theorem rows_0 : ∀ j m (lo : Int32) (s : PS), m + j = 6 → TabR s.2.2.2.2 t m → LowOK s.2.2.2.2 t m lo → (rowsP f N t (j + 1) m lo s).1 = 0 → s.1 = 0 ∧ (rowsP f N t (j + 1) m lo s).2.2.1 = s.2.2.1 ∧ (rowsP f N t (j + 1) m lo s).2.2.2.1 = s.2.2.2.1 ∧
    (∃ m', (rowsP f N t (j + 1) m lo s).2.2.2.2 (9 + t) = nI m' ∧ TabR (rowsP f N t (j + 1) m lo s).2.2.2.2 t m') ∧ (rowsP f N t (j + 1) m lo s).2.2.2.2 3 = nI (t + 1) ∧
    ∀ i, i ≠ 3 → i ≠ 9 + t → ¬ (12 + 6 * t ≤ i ∧ i < 18 + 6 * t) → ¬ (30 + 6 * t ≤ i ∧ i < 36 + 6 * t) → (rowsP f N t (j + 1) m lo s).2.2.2.2 i = s.2.2.2.2 i := by
  intro j
  have fin : ∀ m (s : PS), TabR s.2.2.2.2 t m → (setR 3 (nI (t + 1)) (setR (9 + t) (nI m) s)).1 = 0 → s.1 = 0 ∧ (setR 3 (nI (t + 1)) (setR (9 + t) (nI m) s)).2.2.1 = s.2.2.1 ∧ (setR 3 (nI (t + 1)) (setR (9 + t) (nI m) s)).2.2.2.1 = s.2.2.2.1 ∧
    (∃ m', (setR 3 (nI (t + 1)) (setR (9 + t) (nI m) s)).2.2.2.2 (9 + t) = nI m' ∧ TabR (setR 3 (nI (t + 1)) (setR (9 + t) (nI m) s)).2.2.2.2 t m') ∧ (setR 3 (nI (t + 1)) (setR (9 + t) (nI m) s)).2.2.2.2 3 = nI (t + 1) ∧
    ∀ i, i ≠ 3 → i ≠ 9 + t → ¬ (12 + 6 * t ≤ i ∧ i < 18 + 6 * t) → ¬ (30 + 6 * t ≤ i ∧ i < 36 + 6 * t) → (setR 3 (nI (t + 1)) (setR (9 + t) (nI m) s)).2.2.2.2 i = s.2.2.2.2 i := by
    intro m s hT h
    have h1 : (setR (9 + t) (nI m) s).1 = 0 := d_setR.2.2.1.symm.trans h
    have h2 : s.1 = 0 := d_setR.2.2.1.symm.trans h1
    refine ⟨h2, by rw [d_setR.1, d_setR.1], by rw [d_setR.2.1, d_setR.2.1], ⟨m, ?_, ?_⟩, ?_, fun i i1 i2 i3 i4 => ?_⟩
    · rw [setR_n (by omega), setR_R h2, pk_us]
    · exact TabR_cg (fun i a b => by rw [setR_n (by omega), setR_n (by omega)]) (fun i a b => by rw [setR_n (by omega), setR_n (by omega)]) hT
    · rw [setR_R h1, pk_us]
    · rw [setR_n i1, setR_n i2]
  induction j with
  | zero =>
    intro m lo s hm hT hl h
    obtain rfl : m = 6 := by omega
    rw [rowsP] at h ⊢
    split at h
    · try rw [if_pos rfl] at h
      exact absurd h (flaw_0 (by decide))
    · rename_i hw
      rw [if_neg hw]
      exact fin 6 s hT h
  | succ j ih =>
    intro m lo s hm hT hl h
    rw [rowsP] at h ⊢
    split at h
    · rename_i hw
      rw [if_neg (by omega)] at h
      rw [if_pos hw, if_neg (by omega)]
      have hr : (rowP f N t m lo s).1 = 0 := by
        refine Decidable.byContradiction (fun z => ?_)
        rw [fz_rows z] at h
        exact z h
      have e0 := rowP_0 hr
      have e1 := row_TabR (by omega) hT hl hr
      obtain ⟨_, i2, i3, i4, i5, i6⟩ := ih (m + 1) _ _ (by omega) e1.1 e1.2 h
      refine ⟨e0.1, i2.trans e0.2.1, i3.trans e0.2.2.1, i4, i5, fun i a1 a2 a3 a4 => ?_⟩
      rw [i6 i a1 a2 a3 a4, e0.2.2.2.2.2.2, pk_un (by omega), pk_un (by omega)]
    · rename_i hw
      rw [if_neg hw]
      exact fin m s hT h
theorem tab_0 (h : (tabP f N t s).1 = 0) : s.1 = 0 ∧ ¬ t = 3 ∧ s.2.2.1 = true ∧ gP t 3 s = s ∧ (newP f N 0 t (advP f N s)).1 = 0 ∧ (tab3P f N t s).1 = 0 ∧ isWP (tab3P f N t s) (Wo 12) = true ∧ (tab3P f N t s).2.2.2.2 = upd s.2.2.2.2 (6 + t) (bI (isWP (newP f N 0 t (advP f N s)) (Wo 10))) ∧
    (tabP f N t s).2.2.1 = true ∧ (tabP f N t s).2.2.2.1 = (newP f N 0 t (advP f N s)).2.2.2.1 ∧ (∃ m', (tabP f N t s).2.2.2.2 (9 + t) = nI m' ∧ TabR (tabP f N t s).2.2.2.2 t m') ∧ (tabP f N t s).2.2.2.2 3 = nI (t + 1) ∧ (tabP f N t s).2.2.2.2 (6 + t) = (bI (isWP (newP f N 0 t (advP f N s)) (Wo 10))) ∧
    ∀ i, i ≠ 3 → i ≠ 6 + t → i ≠ 9 + t → ¬ (12 + 6 * t ≤ i ∧ i < 18 + 6 * t) → ¬ (30 + 6 * t ≤ i ∧ i < 36 + 6 * t) → (tabP f N t s).2.2.2.2 i = s.2.2.2.2 i := by
  have h4 : (tab4P (tab3P f N t s)).1 = 0 := by
    refine Decidable.byContradiction (fun z => ?_)
    rw [tabP_u] at h
    rw [fz_rows z] at h
    exact z h
  have hw : isWP (tab3P f N t s) (Wo 12) = true ∧ tab4P (tab3P f N t s) = tab3P f N t s := by
    rw [tab4P_u] at h4 ⊢
    split at h4
    · rename_i hw
      exact ⟨hw, if_pos hw⟩
    · exact absurd h4 (flaw_0 (by decide))
  have h3 := (isW_0 hw.1).1
  have h3' := h3
  rw [tab3P_u] at h3
  have h2 : (howP f N (Wo 10) (Wo 11) (newP f N 0 t (advP f N (gP t 3 s)))).1 = 0 := d_setR.2.2.1.symm.trans h3
  have h1 := (how_0 h2).1
  have h0 := new_0 h1
  have hg := g_0 (adv_0 h0.1)
  have e3 : (tab3P f N t s).2.2.2.2 = upd s.2.2.2.2 (6 + t) (bI (isWP (newP f N 0 t (advP f N s)) (Wo 10))) := by
    rw [tab3P_u]
    rw [setR_R h2, d_how, d_new.2, d_adv, d_g, hg.2.2.2]
  rw [tabP_u] at h ⊢
  rw [hw.2] at h ⊢
  obtain ⟨_, i2, i3, i4, i5, i6⟩ := rows_0 (f := f) (N := N) (t := t) 6 0 0 (tab3P f N t s) rfl ⟨by omega, fun i hi => absurd hi (Nat.not_lt_zero i), fun i hi => absurd hi (Nat.not_lt_zero _)⟩ (Or.inl ⟨rfl, rfl⟩) h
  refine ⟨hg.1, hg.2.1, hg.2.2.1, hg.2.2.2, by rw [← hg.2.2.2]; exact h1, h3', hw.1, e3, i2.trans ?_, i3.trans ?_, i4, i5, ?_, fun i a1 a2 a3 a4 a5 => ?_⟩
  · rw [tab3P_u]
    rw [d_setR.1, d_how, d_new.1, d_adv, d_g]
    exact hg.2.2.1
  · rw [tab3P_u]
    rw [d_setR.2.1, d_how, hg.2.2.2]
  · rw [i6 (6 + t) (by omega) (by omega) (by omega) (by omega), e3, pk_us]
  · rw [i6 i a1 a3 a4 a5, e3, pk_un a2]
/-- the bounds, while nothing is wrong -/
def LB (s : PS) : Prop := s.1 = 0 → ∃ nt np no, RB s.2.2.2.2 nt np no ∧ (s.2.2.1 = false → nt = 0 ∧ np = 0 ∧ no = 0)
theorem bI_01' {b : Bool} : bI b = 0 ∨ bI b = 1 := by cases b; exact Or.inl rfl; exact Or.inr rfl
theorem int_nI {v : Int32} {a b : Nat} (h : (a : Int) ≤ v.toInt ∧ v.toInt ≤ (b : Int)) (hb : b < 1000) : ∃ j, a ≤ j ∧ j ≤ b ∧ v = nI j := by
  refine ⟨v.toInt.toNat, by omega, by omega, ?_⟩
  apply Int32.toInt_inj.mp
  rw [nI_toInt (by omega)]
  omega
theorem LB_line (h : LB s) : LB (lineP f N s) := by
  intro h0
  have hs : s.1 = 0 := Decidable.byContradiction (fun z => by rw [fz_line z] at h0; exact z h0)
  obtain ⟨nt, np, no, ⟨⟨b1, b2, b3⟩, ⟨c1, c2, c3⟩, hT, ⟨k0, k1, k2⟩, hP, hO⟩, hz⟩ := h hs
  rw [lineP_u] at h0 ⊢
  split at h0
  · rename_i hw
    rw [if_pos hw]
    obtain ⟨_, _, e1, _, a, b, _, _, ha, hb, e2⟩ := desk_0 h0
    rw [e2, e1]
    refine ⟨nt, np, no, ⟨⟨b1, b2, b3⟩, ?_, fun t ht => ?_, ⟨?_, ?_, ?_⟩, fun p hp => ?_, fun o ho => ?_⟩, fun z => absurd z (by decide)⟩
    · rw [pk_un (by decide), pk_un (by decide), pk_un (by decide), pk_un (by decide), pk_un (by decide), pk_un (by decide), pk_un (by decide), pk_un (by decide), pk_un (by decide)]
      exact ⟨c1, c2, c3⟩
    · obtain ⟨m, m1, m2, m3⟩ := hT t ht
      rw [pk_un (by omega), pk_un (by omega), pk_un (by omega), pk_un (by omega), pk_un (by omega), pk_un (by omega)]
      exact ⟨m, m1, TabR_cg (fun i x y => by rw [pk_un (by omega), pk_un (by omega), pk_un (by omega)]) (fun i x y => by rw [pk_un (by omega), pk_un (by omega), pk_un (by omega)]) m2, m3⟩
    · rw [pk_un (by decide), pk_un (by decide), pk_us]; exact ha
    · rw [pk_un (by decide), pk_us]; exact hb
    · rw [pk_us]; exact bI_01'
    · rw [pk_un (by omega), pk_un (by omega), pk_un (by omega)]; exact hP p hp
    · exact OrdR_cg (fun j hj => by rw [pk_un (by omega), pk_un (by omega), pk_un (by omega)]) (Nat.le_refl _) (hO o ho)
  · rename_i hw
    rw [if_neg hw]
    split at h0
    · rename_i hw2
      rw [if_pos hw2]
      rw [cn_eq (by omega) c1] at h0 ⊢
      obtain ⟨_, q1, q2, _, _, _, _, _, e1, _, ⟨m', m1, m2⟩, e3, e4, e5⟩ := tab_0 h0
      refine ⟨nt + 1, np, no, ⟨⟨by omega, b2, b3⟩, ?_, fun t ht => ?_, ⟨?_, ?_, ?_⟩, fun p hp => ?_, fun o ho => ?_⟩, fun z => absurd (e1.symm.trans z) (by decide)⟩
      · rw [e3, e5 4 (by omega) (by omega) (by omega) (by omega) (by omega), e5 5 (by omega) (by omega) (by omega) (by omega) (by omega)]
        exact ⟨rfl, c2, c3⟩
      · by_cases htt : t = nt
        · subst htt
          exact ⟨m', m1, m2, by rw [e4]; exact bI_01'⟩
        · obtain ⟨m, y1, y2, y3⟩ := hT t (by omega)
          rw [e5 (9 + t) (by omega) (by omega) (by omega) (by omega) (by omega), e5 (6 + t) (by omega) (by omega) (by omega) (by omega) (by omega)]
          exact ⟨m, y1, TabR_cg (fun i x y => e5 i (by omega) (by omega) (by omega) (by omega) (by omega)) (fun i x y => e5 i (by omega) (by omega) (by omega) (by omega) (by omega)) y2, y3⟩
      · rw [e5 0 (by omega) (by omega) (by omega) (by omega) (by omega)]; exact k0
      · rw [e5 1 (by omega) (by omega) (by omega) (by omega) (by omega)]; exact k1
      · rw [e5 2 (by omega) (by omega) (by omega) (by omega) (by omega)]; exact k2
      · rw [e5 (48 + p) (by omega) (by omega) (by omega) (by omega) (by omega)]; exact hP p hp
      · exact OrdR_cg (fun j hj => e5 _ (by omega) (by omega) (by omega) (by omega) (by omega)) (by omega) (hO o ho)
    · rename_i hw2
      rw [if_neg hw2]
      split at h0
      · rename_i hw3
        rw [if_pos hw3]
        rw [cn_eq (by omega) c2] at h0 ⊢
        obtain ⟨_, q1, q2, _, _, a, _, ha, e1, _, e2⟩ := pay_0 h0
        rw [e2, e1]
        refine ⟨nt, np + 1, no, ⟨⟨b1, by omega, b3⟩, ?_, fun t ht => ?_, ⟨?_, ?_, ?_⟩, fun p hp => ?_, fun o ho => ?_⟩, fun z => absurd z (by decide)⟩
        · rw [pk_un (by omega), pk_un (by omega), pk_us, pk_un (by omega), pk_un (by omega)]
          exact ⟨c1, rfl, c3⟩
        · obtain ⟨m, m1, m2, m3⟩ := hT t ht
          rw [pk_un (by omega), pk_un (by omega), pk_un (by omega), pk_un (by omega)]
          exact ⟨m, m1, TabR_cg (fun i x y => by rw [pk_un (by omega), pk_un (by omega)]) (fun i x y => by rw [pk_un (by omega), pk_un (by omega)]) m2, m3⟩
        · rw [pk_un (by omega), pk_un (by omega)]; exact k0
        · rw [pk_un (by omega), pk_un (by omega)]; exact k1
        · rw [pk_un (by omega), pk_un (by omega)]; exact k2
        · rw [pk_un (by omega)]
          by_cases hpp : p = np
          · subst hpp; rw [pk_us]; exact ha
          · rw [pk_un (by omega)]; exact hP p (by omega)
        · exact OrdR_cg (fun j hj => by rw [pk_un (by omega), pk_un (by omega)]) (Nat.le_refl _) (hO o ho)
      · rename_i hw3
        rw [if_neg hw3]
        split at h0
        · rename_i hw4
          rw [if_pos hw4]
          rw [cn_eq (by omega) c1, cn_eq (by omega) c2, cn_eq b3 c3] at h0 ⊢
          obtain ⟨_, q1, q2, _, _, _, _, _, e1, _, v1, v2, v3, a, b, c, g1, g2, g3, g4, _, e2⟩ := ord_0 b1 h0
          rw [e2, e1]
          have un : ∀ i, i < 51 → i ≠ 5 → upd (upd (upd (upd (upd (upd (upd s.2.2.2.2 (51 + no) v1) (57 + no) v2) (63 + no) v3) (69 + no) a) (75 + no) b) (81 + no) c) 5 (nI (no + 1)) i = s.2.2.2.2 i := by
            intro i hi h5
            rw [pk_un h5, pk_un (by omega), pk_un (by omega), pk_un (by omega), pk_un (by omega), pk_un (by omega), pk_un (by omega)]
          refine ⟨nt, np, no + 1, ⟨⟨b1, b2, by omega⟩, ?_, fun t ht => ?_, ⟨?_, ?_, ?_⟩, fun p hp => ?_, fun o ho => ?_⟩, fun z => absurd z (by decide)⟩
          · rw [un 3 (by omega) (by omega), un 4 (by omega) (by omega), pk_us]
            exact ⟨c1, c2, rfl⟩
          · obtain ⟨m, m1, m2, m3⟩ := hT t ht
            rw [un _ (by omega) (by omega), un _ (by omega) (by omega)]
            exact ⟨m, m1, TabR_cg (fun i x y => un i (by omega) (by omega)) (fun i x y => un i (by omega) (by omega)) m2, m3⟩
          · rw [un _ (by omega) (by omega)]; exact k0
          · rw [un _ (by omega) (by omega)]; exact k1
          · rw [un _ (by omega) (by omega)]; exact k2
          · rw [un _ (by omega) (by omega)]; exact hP p hp
          · by_cases hoo : o = no
            · subst hoo
              unfold OrdR
              rw [pk_un (by omega), pk_un (by omega), pk_un (by omega), pk_un (by omega), pk_un (by omega), pk_un (by omega), pk_us]
              rw [pk_un (by omega), pk_un (by omega), pk_un (by omega), pk_un (by omega), pk_un (by omega), pk_us]
              rw [pk_un (by omega), pk_un (by omega), pk_un (by omega), pk_un (by omega), pk_us]
              rw [pk_un (by omega), pk_un (by omega), pk_un (by omega), pk_us]
              rw [pk_un (by omega), pk_un (by omega), pk_us]
              exact ⟨int_nI g1 (by omega), g2, g3, g4⟩
            · exact OrdR_cg (fun j hj => by rw [pk_un (by omega), pk_un (by omega), pk_un (by omega), pk_un (by omega), pk_un (by omega), pk_un (by omega), pk_un (by omega)]) (Nat.le_refl _) (hO o (by omega))
        · exact absurd h0 (flaw_0 (by decide))
theorem LB_adv (h : LB s) : LB (advP f N s) := by
  intro h0
  rw [d_adv]
  exact h (adv_0 h0)
theorem LB_Cn (h : LB s) : CnOK s := by
  intro h0
  obtain ⟨nt, np, no, ⟨⟨b1, b2, b3⟩, ⟨c1, c2, c3⟩, _⟩, _⟩ := h h0
  exact ⟨nt, np, no, b1, b2, b3, c1, c2, c3⟩
theorem LB_lines : ∀ j s, LB s → LB (linesP f N j s)
  | 0, s, h => by rw [linesP]; exact h
  | j + 1, s, h => by
    rw [linesP]
    split
    · exact LB_lines j _ (LB_line (LB_adv h))
    · exact h
theorem end_0 (h : (endP s).1 = 0) : s.1 = 0 ∧ s.2.1.2.2.1 = 0 ∧ ¬ s.2.2.2.2 4 = 0 ∧ endP s = s := by
  rw [endP_u] at h ⊢
  split at h
  · rename_i hk
    rw [if_pos hk]
    split at h
    · exact absurd h (flaw_0 (by decide))
    · rename_i h4
      rw [if_neg h4]
      exact ⟨hk.1, hk.2, h4, rfl⟩
  · exact absurd h (flaw_0 (by decide))
end LB
