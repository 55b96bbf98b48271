/-! the pure parser: names, lines, all -/
def updL (g : Nat → Int64) (k : Nat) (v : Int64) : Nat → Int64 := fun j => if j = k then v else g j
def setR (k : Nat) (v : Int32) (s : PS) : PS := if hF : s.2.1.1 < s.2.1.1 then setR k v (0, s.2) else (if s.1 = 0 then (s.1, s.2.1, s.2.2.1, s.2.2.2.1, upd s.2.2.2.2 k v) else s)
termination_by s.2.1.1
decreasing_by first | exact hF | assumption | omega
theorem setR_u {k : Nat} {v : Int32} {s : PS} : setR k v s = (if s.1 = 0 then (s.1, s.2.1, s.2.2.1, s.2.2.2.1, upd s.2.2.2.2 k v) else s) := by rw [setR, dif_neg (Nat.lt_irrefl _)]
def setN (k : Nat) (v : Int64) (s : PS) : PS := if hF : s.2.1.1 < s.2.1.1 then setN k v (0, s.2) else (if s.1 = 0 then (s.1, s.2.1, s.2.2.1, updL s.2.2.2.1 k v, s.2.2.2.2) else s)
termination_by s.2.1.1
decreasing_by first | exact hF | assumption | omega
theorem setN_u {k : Nat} {v : Int64} {s : PS} : setN k v s = (if s.1 = 0 then (s.1, s.2.1, s.2.2.1, updL s.2.2.2.1 k v, s.2.2.2.2) else s) := by rw [setN, dif_neg (Nat.lt_irrefl _)]
def setD (s : PS) : PS := if hF : s.2.1.1 < s.2.1.1 then setD (0, s.2) else (if s.1 = 0 then (s.1, s.2.1, true, s.2.2.2) else s)
termination_by s.2.1.1
decreasing_by first | exact hF | assumption | omega
theorem setD_u {s : PS} : setD s = (if s.1 = 0 then (s.1, s.2.1, true, s.2.2.2) else s) := by rw [setD, dif_neg (Nat.lt_irrefl _)]
def nmP (s : PS) : PS := if hF : s.2.1.1 < s.2.1.1 then nmP (0, s.2) else (if s.1 = 0 ∧ isNm s.2.1 = true then s else flawP 1 s)
termination_by s.2.1.1
decreasing_by first | exact hF | assumption | omega
theorem nmP_u {s : PS} : nmP s = (if s.1 = 0 ∧ isNm s.2.1 = true then s else flawP 1 s) := by rw [nmP, dif_neg (Nat.lt_irrefl _)]
def fnP (s : PS) (i n : Nat) : Int32 := if hF : s.2.1.1 < s.2.1.1 then fnP (0, s.2) i n else (fnF (fun k => s.2.2.2.1 (i + k)) s.2.1.2.2.2 n 0)
termination_by s.2.1.1
decreasing_by first | exact hF | assumption | omega
theorem fnP_u {s : PS} {i n : Nat} : fnP s i n = (fnF (fun k => s.2.2.2.1 (i + k)) s.2.1.2.2.2 n 0) := by rw [fnP, dif_neg (Nat.lt_irrefl _)]
def newP (f : Nat → Int32) (N i n : Nat) (s : PS) : PS := if hF : s.2.1.1 < s.2.1.1 then newP f N i n (0, s.2) else (advP f N (setN (i + n) s.2.1.2.2.2 (if fnP s i n = -1 then nmP s else flawP 3 (nmP s))))
termination_by s.2.1.1
decreasing_by first | exact hF | assumption | omega
theorem newP_u {f : Nat → Int32} {N i n : Nat} {s : PS} : newP f N i n s = (advP f N (setN (i + n) s.2.1.2.2.2 (if fnP s i n = -1 then nmP s else flawP 3 (nmP s)))) := by rw [newP, dif_neg (Nat.lt_irrefl _)]
def knownP (f : Nat → Int32) (N i n : Nat) (s : PS) : PS := if hF : s.2.1.1 < s.2.1.1 then knownP f N i n (0, s.2) else (advP f N (if fnP s i n = -1 then flawP 3 (nmP s) else nmP s))
termination_by s.2.1.1
decreasing_by first | exact hF | assumption | omega
theorem knownP_u {f : Nat → Int32} {N i n : Nat} {s : PS} : knownP f N i n s = (advP f N (if fnP s i n = -1 then flawP 3 (nmP s) else nmP s)) := by rw [knownP, dif_neg (Nat.lt_irrefl _)]
/-- a word, a whole number behind it: written at k -/
def pt (f : Nat → Int32) (N : Nat) (w : Int64) (lo hi : Int32) (k : Nat) (s : PS) : PS := if hF : s.2.1.1 < s.2.1.1 then pt f N w lo hi k (0, s.2) else (setR k (needsP f N w s).2.1.2.2.2.toInt32 (wholeP f N lo hi (needsP f N w s)))
termination_by s.2.1.1
decreasing_by first | exact hF | assumption | omega
theorem pt_u {f : Nat → Int32} {N : Nat} {w : Int64} {lo hi : Int32} {k : Nat} {s : PS} : pt f N w lo hi k s = (setR k (needsP f N w s).2.1.2.2.2.toInt32 (wholeP f N lo hi (needsP f N w s))) := by rw [pt, dif_neg (Nat.lt_irrefl _)]
def gP (n mx : Nat) (s : PS) : PS := if hF : s.2.1.1 < s.2.1.1 then gP n mx (0, s.2) else (if n = mx then flawP 5 s else if s.2.2.1 = true then s else flawP 6 s)
termination_by s.2.1.1
decreasing_by first | exact hF | assumption | omega
theorem gP_u {n mx : Nat} {s : PS} : gP n mx s = (if n = mx then flawP 5 s else if s.2.2.1 = true then s else flawP 6 s) := by rw [gP, dif_neg (Nat.lt_irrefl _)]
def dsk4P (f : Nat → Int32) (N : Nat) (s : PS) : PS := if hF : s.2.1.1 < s.2.1.1 then dsk4P f N (0, s.2) else (needsP f N (Wo 4) (pt f N (Wo 3) 0 99 1 (pt f N (Wo 2) 0 999 0 (advP f N (if s.2.2.1 = true then flawP 4 s else s)))))
termination_by s.2.1.1
decreasing_by first | exact hF | assumption | omega
theorem dsk4P_u {f : Nat → Int32} {N : Nat} {s : PS} : dsk4P f N s = (needsP f N (Wo 4) (pt f N (Wo 3) 0 99 1 (pt f N (Wo 2) 0 999 0 (advP f N (if s.2.2.1 = true then flawP 4 s else s))))) := by rw [dsk4P, dif_neg (Nat.lt_irrefl _)]
def deskP (f : Nat → Int32) (N : Nat) (s : PS) : PS := if hF : s.2.1.1 < s.2.1.1 then deskP f N (0, s.2) else (setD (setR 2 (bI (isWP (dsk4P f N s) (Wo 5))) (howP f N (Wo 5) (Wo 6) (dsk4P f N s))))
termination_by s.2.1.1
decreasing_by first | exact hF | assumption | omega
theorem deskP_u {f : Nat → Int32} {N : Nat} {s : PS} : deskP f N s = (setD (setR 2 (bI (isWP (dsk4P f N s) (Wo 5))) (howP f N (Wo 5) (Wo 6) (dsk4P f N s)))) := by rw [deskP, dif_neg (Nat.lt_irrefl _)]
def payP (f : Nat → Int32) (N p : Nat) (s : PS) : PS := if hF : s.2.1.1 < s.2.1.1 then payP f N p (0, s.2) else (setR 4 (nI (p + 1)) (pt f N (Wo 14) 1 4 (48 + p) (newP f N 3 p (advP f N (gP p 3 s)))))
termination_by s.2.1.1
decreasing_by first | exact hF | assumption | omega
theorem payP_u {f : Nat → Int32} {N p : Nat} {s : PS} : payP f N p s = (setR 4 (nI (p + 1)) (pt f N (Wo 14) 1 4 (48 + p) (newP f N 3 p (advP f N (gP p 3 s))))) := by rw [payP, dif_neg (Nat.lt_irrefl _)]
def kindP (f : Nat → Int32) (N nt o : Nat) (s : PS) : PS := if hF : s.2.1.1 < s.2.1.1 then kindP f N nt o (0, s.2) else (if isWP s (Wo 7) = true then setR (75 + o) (fnP (advP f N s) 0 nt) (knownP f N 0 nt (setR (69 + o) 1 (advP f N s)))
  else if isWP s (Wo 3) = true then setR (75 + o) (advP f N s).2.1.2.2.2.toInt32 (wholeP f N 1 99 (setR (69 + o) 2 (advP f N s)))
  else if isWP s (Wo 17) = true then setR (75 + o) (advP f N s).2.1.2.2.2.toInt32 (wholeP f N 1 999 (setR (69 + o) 0 (advP f N s)))
  else flawP 1 s)
termination_by s.2.1.1
decreasing_by first | exact hF | assumption | omega
theorem kindP_u {f : Nat → Int32} {N nt o : Nat} {s : PS} : kindP f N nt o s = (if isWP s (Wo 7) = true then setR (75 + o) (fnP (advP f N s) 0 nt) (knownP f N 0 nt (setR (69 + o) 1 (advP f N s)))
  else if isWP s (Wo 3) = true then setR (75 + o) (advP f N s).2.1.2.2.2.toInt32 (wholeP f N 1 99 (setR (69 + o) 2 (advP f N s)))
  else if isWP s (Wo 17) = true then setR (75 + o) (advP f N s).2.1.2.2.2.toInt32 (wholeP f N 1 999 (setR (69 + o) 0 (advP f N s)))
  else flawP 1 s) := by rw [kindP, dif_neg (Nat.lt_irrefl _)]
def atP (f : Nat → Int32) (N np o : Nat) (s : PS) : PS := if hF : s.2.1.1 < s.2.1.1 then atP f N np o (0, s.2) else (if isWP s (Wo 10) = true then advP f N (setR (81 + o) 7 s) else setR (81 + o) (1 <<< (fnP s 3 np &&& 31)) (knownP f N 3 np s))
termination_by s.2.1.1
decreasing_by first | exact hF | assumption | omega
theorem atP_u {f : Nat → Int32} {N np o : Nat} {s : PS} : atP f N np o s = (if isWP s (Wo 10) = true then advP f N (setR (81 + o) 7 s) else setR (81 + o) (1 <<< (fnP s 3 np &&& 31)) (knownP f N 3 np s)) := by rw [atP, dif_neg (Nat.lt_irrefl _)]
def ord5P (f : Nat → Int32) (N o : Nat) (s : PS) : PS := if hF : s.2.1.1 < s.2.1.1 then ord5P f N o (0, s.2) else (pt f N (Wo 16) 0 99999 (63 + o) (pt f N (Wo 2) 0 999 (57 + o) (pt f N (Wo 15) 1 9 (51 + o) (newP f N 6 o (advP f N (gP o 6 s))))))
termination_by s.2.1.1
decreasing_by first | exact hF | assumption | omega
theorem ord5P_u {f : Nat → Int32} {N o : Nat} {s : PS} : ord5P f N o s = (pt f N (Wo 16) 0 99999 (63 + o) (pt f N (Wo 2) 0 999 (57 + o) (pt f N (Wo 15) 1 9 (51 + o) (newP f N 6 o (advP f N (gP o 6 s)))))) := by rw [ord5P, dif_neg (Nat.lt_irrefl _)]
def ordP (f : Nat → Int32) (N nt np o : Nat) (s : PS) : PS := if hF : s.2.1.1 < s.2.1.1 then ordP f N nt np o (0, s.2) else (setR 5 (nI (o + 1)) (atP f N np o (needsP f N (Wo 18) (kindP f N nt o (ord5P f N o s)))))
termination_by s.2.1.1
decreasing_by first | exact hF | assumption | omega
theorem ordP_u {f : Nat → Int32} {N nt np o : Nat} {s : PS} : ordP f N nt np o s = (setR 5 (nI (o + 1)) (atP f N np o (needsP f N (Wo 18) (kindP f N nt o (ord5P f N o s))))) := by rw [ordP, dif_neg (Nat.lt_irrefl _)]
def rowP (f : Nat → Int32) (N t m : Nat) (low : Int32) (s : PS) : PS := if hF : s.2.1.1 < s.2.1.1 then rowP f N t m low (0, s.2) else (setR (30 + 6 * t + m) (needsP f N (Wo 13) (wholeP f N low 9999 (advP f N s))).2.1.2.2.2.toInt32 (setR (12 + 6 * t + m) (advP f N s).2.1.2.2.2.toInt32 (wholeP f N 0 99 (needsP f N (Wo 13) (wholeP f N low 9999 (advP f N s))))))
termination_by s.2.1.1
decreasing_by first | exact hF | assumption | omega
theorem rowP_u {f : Nat → Int32} {N t m : Nat} {low : Int32} {s : PS} : rowP f N t m low s = (setR (30 + 6 * t + m) (needsP f N (Wo 13) (wholeP f N low 9999 (advP f N s))).2.1.2.2.2.toInt32 (setR (12 + 6 * t + m) (advP f N s).2.1.2.2.2.toInt32 (wholeP f N 0 99 (needsP f N (Wo 13) (wholeP f N low 9999 (advP f N s)))))) := by rw [rowP, dif_neg (Nat.lt_irrefl _)]
def rowsP (f : Nat → Int32) (N t : Nat) : Nat → Nat → Int32 → PS → PS
  | 0, _, _, s => s
  | j + 1, m, low, s => if isWP s (Wo 12) = true then (if m = 6 then flawP 5 s else rowsP f N t j (m + 1) ((advP f N s).2.1.2.2.2.toInt32 + 1) (rowP f N t m low s)) else setR 3 (nI (t + 1)) (setR (9 + t) (nI m) s)
termination_by j => j
def tab3P (f : Nat → Int32) (N t : Nat) (s : PS) : PS := if hF : s.2.1.1 < s.2.1.1 then tab3P f N t (0, s.2) else (setR (6 + t) (bI (isWP (newP f N 0 t (advP f N (gP t 3 s))) (Wo 10))) (howP f N (Wo 10) (Wo 11) (newP f N 0 t (advP f N (gP t 3 s)))))
termination_by s.2.1.1
decreasing_by first | exact hF | assumption | omega
theorem tab3P_u {f : Nat → Int32} {N t : Nat} {s : PS} : tab3P f N t s = (setR (6 + t) (bI (isWP (newP f N 0 t (advP f N (gP t 3 s))) (Wo 10))) (howP f N (Wo 10) (Wo 11) (newP f N 0 t (advP f N (gP t 3 s))))) := by rw [tab3P, dif_neg (Nat.lt_irrefl _)]
def tab4P (s : PS) : PS := if hF : s.2.1.1 < s.2.1.1 then tab4P (0, s.2) else (if isWP s (Wo 12) = true then s else flawP 1 s)
termination_by s.2.1.1
decreasing_by first | exact hF | assumption | omega
theorem tab4P_u {s : PS} : tab4P s = (if isWP s (Wo 12) = true then s else flawP 1 s) := by rw [tab4P, dif_neg (Nat.lt_irrefl _)]
def tabP (f : Nat → Int32) (N t : Nat) (s : PS) : PS := if hF : s.2.1.1 < s.2.1.1 then tabP f N t (0, s.2) else (rowsP f N t 7 0 0 (tab4P (tab3P f N t s)))
termination_by s.2.1.1
decreasing_by first | exact hF | assumption | omega
theorem tabP_u {f : Nat → Int32} {N t : Nat} {s : PS} : tabP f N t s = (rowsP f N t 7 0 0 (tab4P (tab3P f N t s))) := by rw [tabP, dif_neg (Nat.lt_irrefl _)]
def cnP (s : PS) (k : Nat) : Nat := (s.2.2.2.2 k).toNatClampNeg
def lineP (f : Nat → Int32) (N : Nat) (s : PS) : PS := if hF : s.2.1.1 < s.2.1.1 then lineP f N (0, s.2) else (if isWP s (Wo 1) = true then deskP f N s else if isWP s (Wo 7) = true then tabP f N (cnP s 3) s else if isWP s (Wo 8) = true then payP f N (cnP s 4) s
  else if isWP s (Wo 9) = true then ordP f N (cnP s 3) (cnP s 4) (cnP s 5) s else flawP 1 s)
termination_by s.2.1.1
decreasing_by first | exact hF | assumption | omega
theorem lineP_u {f : Nat → Int32} {N : Nat} {s : PS} : lineP f N s = (if isWP s (Wo 1) = true then deskP f N s else if isWP s (Wo 7) = true then tabP f N (cnP s 3) s else if isWP s (Wo 8) = true then payP f N (cnP s 4) s
  else if isWP s (Wo 9) = true then ordP f N (cnP s 3) (cnP s 4) (cnP s 5) s else flawP 1 s) := by rw [lineP, dif_neg (Nat.lt_irrefl _)]
def linesP (f : Nat → Int32) (N : Nat) : Nat → PS → PS
  | 0, s => s
  | j + 1, s => if s.1 = 0 ∧ s.2.1.2.2.1 = 3 then linesP f N j (lineP f N (advP f N s)) else s
termination_by j => j
def endP (s : PS) : PS := if hF : s.2.1.1 < s.2.1.1 then endP (0, s.2) else (if s.1 = 0 ∧ s.2.1.2.2.1 = 0 then (if s.2.2.2.2 4 = 0 then flawP 6 s else s) else flawP 1 s)
termination_by s.2.1.1
decreasing_by first | exact hF | assumption | omega
theorem endP_u {s : PS} : endP s = (if s.1 = 0 ∧ s.2.1.2.2.1 = 0 then (if s.2.2.2.2 4 = 0 then flawP 6 s else s) else flawP 1 s) := by rw [endP, dif_neg (Nat.lt_irrefl _)]
section PAR
variable {f : Nat → Int32} {N i n k m t o p nt np j : Nat} {s : PS} {w v : Int64} {lo hi x c : Int32}
theorem fz_flaw (h : ¬ s.1 = 0) : flawP c s = s := by rw [flawP_u]; exact if_neg h
theorem fz_adv (h : ¬ s.1 = 0) : advP f N s = s := by rw [advP_u]; exact if_neg h
theorem fz_isW (h : ¬ s.1 = 0) : isWP s w = false := by rw [isWP_u]; rw [decide_eq_false h, Bool.false_and]
theorem fz_needs (h : ¬ s.1 = 0) : needsP f N w s = s := by rw [needsP_u]; rw [fz_isW h, if_neg (by decide), fz_flaw h, fz_adv h]
theorem fz_whole (h : ¬ s.1 = 0) : wholeP f N lo hi s = s := by rw [wholeP_u]; rw [if_neg (fun z => h z.1), fz_flaw h, fz_adv h]
theorem fz_how (h : ¬ s.1 = 0) : howP f N w v s = s := by rw [howP_u]; rw [fz_isW h, fz_isW h, if_neg (by decide), fz_flaw h, fz_adv h]
theorem fz_setR (h : ¬ s.1 = 0) : setR k x s = s := by rw [setR_u]; exact if_neg h
theorem fz_setN (h : ¬ s.1 = 0) : setN k w s = s := by rw [setN_u]; exact if_neg h
theorem fz_setD (h : ¬ s.1 = 0) : setD s = s := by rw [setD_u]; exact if_neg h
theorem fz_nm (h : ¬ s.1 = 0) : nmP s = s := by rw [nmP_u]; rw [if_neg (fun z => h z.1), fz_flaw h]
theorem fz_new (h : ¬ s.1 = 0) : newP f N i n s = s := by
  rw [newP_u]
  rw [fz_nm h, fz_flaw h, ite_self, fz_setN h, fz_adv h]
theorem fz_known (h : ¬ s.1 = 0) : knownP f N i n s = s := by
  rw [knownP_u]
  rw [fz_nm h, fz_flaw h, ite_self, fz_adv h]
theorem fz_pt (h : ¬ s.1 = 0) : pt f N w lo hi k s = s := by rw [pt_u]; rw [fz_needs h, fz_whole h, fz_setR h]
theorem fz_g (h : ¬ s.1 = 0) : gP n m s = s := by rw [gP_u]; rw [fz_flaw h, fz_flaw h, ite_self, ite_self]
theorem fz_kind (h : ¬ s.1 = 0) : kindP f N nt o s = s := by
  rw [kindP_u]
  rw [fz_isW h, fz_isW h, fz_isW h, if_neg (by decide), if_neg (by decide), if_neg (by decide), fz_flaw h]
theorem fz_at (h : ¬ s.1 = 0) : atP f N np o s = s := by
  rw [atP_u]
  rw [fz_isW h, if_neg (by decide), fz_known h, fz_setR h]
theorem fz_row (h : ¬ s.1 = 0) : rowP f N t m lo s = s := by
  rw [rowP_u]
  rw [fz_adv h, fz_whole h, fz_needs h, fz_whole h, fz_setR h, fz_setR h]
theorem fz_rows (h : ¬ s.1 = 0) : rowsP f N t j m lo s = s := by
  cases j with
  | zero => rw [rowsP]
  | succ j => rw [rowsP, fz_isW h, if_neg (by decide), fz_setR h, fz_setR h]
theorem fz_tab4 (h : ¬ s.1 = 0) : tab4P s = s := by rw [tab4P_u]; rw [fz_flaw h, ite_self]
theorem fz_line (h : ¬ s.1 = 0) : lineP f N s = s := by
  rw [lineP_u]
  rw [fz_isW h, fz_isW h, fz_isW h, fz_isW h, if_neg (by decide), if_neg (by decide), if_neg (by decide), if_neg (by decide), fz_flaw h]
/-! what a step leaves of the rest -/
theorem d_flaw : (flawP c s).2 = s.2 := by rw [flawP_u]; split <;> rfl
theorem d_adv : (advP f N s).2.2 = s.2.2 := by rw [advP_u]; split <;> rfl
theorem d_needs : (needsP f N w s).2.2 = s.2.2 := by rw [needsP_u]; rw [d_adv]; split; · rfl
                                                     rw [d_flaw]
theorem d_whole : (wholeP f N lo hi s).2.2 = s.2.2 := by
  rw [wholeP_u]
  rw [d_adv]
  split
  · split
    · rfl
    · rw [d_flaw]
  · rw [d_flaw]
theorem d_how : (howP f N w v s).2.2 = s.2.2 := by
  rw [howP_u]
  rw [d_adv]
  split
  · rfl
  · rw [d_flaw]
theorem d_nm : (nmP s).2 = s.2 := by
  rw [nmP_u]
  split
  · rfl
  · rw [d_flaw]
theorem d_known : (knownP f N i n s).2.2 = s.2.2 := by
  rw [knownP_u]
  rw [d_adv]
  split
  · rw [d_flaw, d_nm]
  · rw [d_nm]
theorem d_g : (gP n m s).2 = s.2 := by
  rw [gP_u]
  split
  · rw [d_flaw]
  · split
    · rfl
    · rw [d_flaw]
theorem d_setN : (setN k w s).2.2.1 = s.2.2.1 ∧ (setN k w s).2.2.2.2 = s.2.2.2.2 ∧ (setN k w s).1 = s.1 ∧ (setN k w s).2.1 = s.2.1 := by rw [setN_u]; split <;> exact ⟨rfl, rfl, rfl, rfl⟩
theorem d_setR : (setR k x s).2.2.1 = s.2.2.1 ∧ (setR k x s).2.2.2.1 = s.2.2.2.1 ∧ (setR k x s).1 = s.1 ∧ (setR k x s).2.1 = s.2.1 := by rw [setR_u]; split <;> exact ⟨rfl, rfl, rfl, rfl⟩
theorem setR_R (h : s.1 = 0) : (setR k x s).2.2.2.2 = upd s.2.2.2.2 k x := by rw [setR_u]; rw [if_pos h]
theorem setR_n (h : i ≠ k) : (setR k x s).2.2.2.2 i = s.2.2.2.2 i := by
  rw [setR_u]
  split
  · exact pk_un h
  · rfl
theorem d_new : (newP f N i n s).2.2.1 = s.2.2.1 ∧ (newP f N i n s).2.2.2.2 = s.2.2.2.2 := by
  rw [newP_u]
  rw [d_adv, d_setN.1, d_setN.2.1]
  split
  · rw [d_nm]; exact ⟨rfl, rfl⟩
  · rw [d_flaw, d_nm]; exact ⟨rfl, rfl⟩
theorem d_pt : (pt f N w lo hi k s).2.2.1 = s.2.2.1 ∧ (pt f N w lo hi k s).2.2.2.1 = s.2.2.2.1 := by
  rw [pt_u]
  rw [d_setR.1, d_setR.2.1, d_whole, d_needs]
  exact ⟨rfl, rfl⟩
theorem pt_n (h : i ≠ k) : (pt f N w lo hi k s).2.2.2.2 i = s.2.2.2.2 i := by rw [pt_u]; rw [setR_n h, d_whole, d_needs]
/-! when a step went well -/
theorem adv_0 (h : (advP f N s).1 = 0) : s.1 = 0 := by
  rw [advP_u] at h
  by_cases hs : s.1 = 0
  · exact hs
  · rw [if_neg hs] at h; exact h
theorem flaw_0 (hc : ¬ c = 0) : ¬ (flawP c s).1 = 0 := by
  rw [flawP_u]
  split
  · exact hc
  · assumption
theorem needs_0 (h : (needsP f N w s).1 = 0) : s.1 = 0 ∧ isWP s w = true ∧ needsP f N w s = advP f N s := by
  rw [needsP_u] at h ⊢
  cases hw : isWP s w
  · rw [hw, if_neg (by decide)] at h
    exact absurd (adv_0 h) (flaw_0 (by decide))
  · rw [hw, if_pos rfl] at h
    rw [if_pos rfl]
    exact ⟨adv_0 h, rfl, rfl⟩
theorem whole_0 (h : (wholeP f N lo hi s).1 = 0) : s.1 = 0 ∧ s.2.1.2.2.1 = 2 ∧ (lo.toInt64 ≤ s.2.1.2.2.2 ∧ s.2.1.2.2.2 ≤ hi.toInt64) ∧ wholeP f N lo hi s = advP f N s := by
  rw [wholeP_u] at h ⊢
  by_cases hk : s.1 = 0 ∧ s.2.1.2.2.1 = 2
  · rw [if_pos hk] at h ⊢
    by_cases hr : lo.toInt64 ≤ s.2.1.2.2.2 ∧ s.2.1.2.2.2 ≤ hi.toInt64
    · rw [if_pos hr]
      exact ⟨hk.1, hk.2, hr, rfl⟩
    · rw [if_neg hr] at h
      exact absurd (adv_0 h) (flaw_0 (by decide))
  · rw [if_neg hk] at h
    exact absurd (adv_0 h) (flaw_0 (by decide))
theorem nm_0 (h : (nmP s).1 = 0) : s.1 = 0 ∧ isNm s.2.1 = true ∧ nmP s = s := by
  rw [nmP_u] at h ⊢
  by_cases hk : s.1 = 0 ∧ isNm s.2.1 = true
  · rw [if_pos hk]
    exact ⟨hk.1, hk.2, rfl⟩
  · rw [if_neg hk] at h
    exact absurd h (flaw_0 (by decide))
theorem g_0 (h : (gP n m s).1 = 0) : s.1 = 0 ∧ ¬ n = m ∧ s.2.2.1 = true ∧ gP n m s = s := by
  rw [gP_u] at h ⊢
  by_cases hn : n = m
  · rw [if_pos hn] at h
    exact absurd h (flaw_0 (by decide))
  · rw [if_neg hn] at h ⊢
    by_cases hd : s.2.2.1 = true
    · rw [if_pos hd] at h ⊢
      exact ⟨h, hn, hd, rfl⟩
    · rw [if_neg hd] at h
      exact absurd h (flaw_0 (by decide))
theorem Wo_1 : Wo 1 = 0x6465736b := by rw [Wo_u]; decide
theorem Wo_7 : Wo 7 = 0x7461626c65 := by rw [Wo_u]; decide
theorem Wo_8 : Wo 8 = 0x7061796572 := by rw [Wo_u]; decide
theorem Wo_9 : Wo 9 = 0x6f72646572 := by rw [Wo_u]; decide
theorem Wo_10 : Wo 10 = 0x616c6c := by rw [Wo_u]; decide
theorem Wo_2 : Wo 2 = 0x6b656570 := by rw [Wo_u]; decide
theorem Wo_3 : Wo 3 = 0x70617274 := by rw [Wo_u]; decide
theorem Wo_4 : Wo 4 = 0x7368617265 := by rw [Wo_u]; decide
theorem Wo_5 : Wo 5 = 0x6576656e := by rw [Wo_u]; decide
theorem Wo_6 : Wo 6 = 0x7061727473 := by rw [Wo_u]; decide
theorem Wo_11 : Wo 11 = 0x7374657073 := by rw [Wo_u]; decide
theorem Wo_12 : Wo 12 = 0x66726f6d := by rw [Wo_u]; decide
theorem Wo_13 : Wo 13 = 0x74616b65 := by rw [Wo_u]; decide
theorem Wo_14 : Wo 14 = 0x7765656b73 := by rw [Wo_u]; decide
theorem Wo_15 : Wo 15 = 0x72616e6b := by rw [Wo_u]; decide
theorem Wo_16 : Wo 16 = 0x746f74616c := by rw [Wo_u]; decide
theorem Wo_17 : Wo 17 = 0x73756d := by rw [Wo_u]; decide
theorem Wo_18 : Wo 18 = 0x6174 := by rw [Wo_u]; decide
theorem isW_0 (h : isWP s w = true) : s.1 = 0 ∧ s.2.1.2.2.1 = 1 ∧ s.2.1.2.2.2 = w := by
  rw [isWP_u] at h
  rw [Bool.and_eq_true, decide_eq_true_eq, decide_eq_true_eq] at h
  exact h
theorem isW_n (hf : s.1 = 0) (h : isWP s w = false) : ¬ (s.2.1.2.2.1 = 1 ∧ s.2.1.2.2.2 = w) := by
  rw [isWP_u] at h
  rw [decide_eq_true hf, Bool.true_and, decide_eq_false_iff_not] at h
  exact h
theorem nm_yes (hf : s.1 = 0) (hk : s.2.1.2.2.1 = 1) (h1 : isWP s (Wo 1) = false) (h7 : isWP s (Wo 7) = false) (h8 : isWP s (Wo 8) = false) (h9 : isWP s (Wo 9) = false) (h10 : isWP s (Wo 10) = false) : nmP s = s := by
  rw [nmP_u]; unfold isNm
  refine if_pos ⟨hf, decide_eq_true ⟨hk, ?_, ?_, ?_, ?_, ?_⟩⟩
  · rw [← Wo_1]; exact fun z => isW_n hf h1 ⟨hk, z⟩
  · rw [← Wo_7]; exact fun z => isW_n hf h7 ⟨hk, z⟩
  · rw [← Wo_8]; exact fun z => isW_n hf h8 ⟨hk, z⟩
  · rw [← Wo_9]; exact fun z => isW_n hf h9 ⟨hk, z⟩
  · rw [← Wo_10]; exact fun z => isW_n hf h10 ⟨hk, z⟩
theorem nm_no1 (h : ¬ (s.1 = 0 ∧ s.2.1.2.2.1 = 1)) : nmP s = flawP 1 s := by
  rw [nmP_u]; unfold isNm
  exact if_neg (fun z => h ⟨z.1, (of_decide_eq_true z.2).1⟩)
theorem nm_no2 (hi : i = 1 ∨ i = 7 ∨ i = 8 ∨ i = 9 ∨ i = 10) (h : isWP s (Wo i) = true) : nmP s = flawP 1 s := by
  rw [nmP_u]; unfold isNm
  have h0 := isW_0 h
  refine if_neg (fun z => ?_)
  have z2 := of_decide_eq_true z.2
  rcases hi with rfl | rfl | rfl | rfl | rfl
  · exact z2.2.1 (h0.2.2.trans Wo_1)
  · exact z2.2.2.1 (h0.2.2.trans Wo_7)
  · exact z2.2.2.2.1 (h0.2.2.trans Wo_8)
  · exact z2.2.2.2.2.1 (h0.2.2.trans Wo_9)
  · exact z2.2.2.2.2.2 (h0.2.2.trans Wo_10)
/-- what every step keeps, a line keeps -/
def Kp (f : Nat → Int32) (N : Nat) (Q : PS → Prop) : Prop :=
  (∀ c s, Q s → Q (flawP c s)) ∧ (∀ s, Q s → Q (advP f N s)) ∧ (∀ k x s, Q s → Q (setR k x s)) ∧ (∀ k w s, Q s → Q (setN k w s)) ∧ (∀ s, Q s → Q (setD s))
theorem Kp.flaw {Q : PS → Prop} (K : Kp f N Q) : ∀ c s, Q s → Q (flawP c s) := K.1
theorem Kp.adv {Q : PS → Prop} (K : Kp f N Q) : ∀ s, Q s → Q (advP f N s) := K.2.1
theorem Kp.setR {Q : PS → Prop} (K : Kp f N Q) : ∀ k x s, Q s → Q (setR k x s) := K.2.2.1
theorem Kp.setN {Q : PS → Prop} (K : Kp f N Q) : ∀ k w s, Q s → Q (setN k w s) := K.2.2.2.1
theorem Kp.setD {Q : PS → Prop} (K : Kp f N Q) : ∀ s, Q s → Q (setD s) := K.2.2.2.2
section KP
variable {Q : PS → Prop}
theorem Kp.needs (K : Kp f N Q) (h : Q s) : Q (needsP f N w s) := by
  rw [needsP_u]
  refine K.adv _ ?_
  split
  · exact h
  · exact K.flaw _ _ h
theorem Kp.whole (K : Kp f N Q) (h : Q s) : Q (wholeP f N lo hi s) := by
  rw [wholeP_u]
  refine K.adv _ ?_
  split
  · split
    · exact h
    · exact K.flaw _ _ h
  · exact K.flaw _ _ h
theorem Kp.how (K : Kp f N Q) (h : Q s) : Q (howP f N w v s) := by
  rw [howP_u]
  refine K.adv _ ?_
  split
  · exact h
  · exact K.flaw _ _ h
theorem Kp.nm (K : Kp f N Q) (h : Q s) : Q (nmP s) := by
  rw [nmP_u]
  split
  · exact h
  · exact K.flaw _ _ h
theorem Kp.new (K : Kp f N Q) (h : Q s) : Q (newP f N i n s) := by
  rw [newP_u]
  refine K.adv _ (K.setN _ _ _ ?_)
  split
  · exact K.nm h
  · exact K.flaw _ _ (K.nm h)
theorem Kp.known (K : Kp f N Q) (h : Q s) : Q (knownP f N i n s) := by
  rw [knownP_u]
  refine K.adv _ ?_
  split
  · exact K.flaw _ _ (K.nm h)
  · exact K.nm h
theorem Kp.pt (K : Kp f N Q) (h : Q s) : Q (pt f N w lo hi k s) := by rw [pt_u]; exact K.setR _ _ _ (K.whole (K.needs h))
theorem Kp.g (K : Kp f N Q) (h : Q s) : Q (gP n m s) := by
  rw [gP_u]
  split
  · exact K.flaw _ _ h
  · split
    · exact h
    · exact K.flaw _ _ h
theorem Kp.kind (K : Kp f N Q) (h : Q s) : Q (kindP f N nt o s) := by
  rw [kindP_u]
  split
  · exact K.setR _ _ _ (K.known (K.setR _ _ _ (K.adv _ h)))
  · split
    · exact K.setR _ _ _ (K.whole (K.setR _ _ _ (K.adv _ h)))
    · split
      · exact K.setR _ _ _ (K.whole (K.setR _ _ _ (K.adv _ h)))
      · exact K.flaw _ _ h
theorem Kp.at (K : Kp f N Q) (h : Q s) : Q (atP f N np o s) := by
  rw [atP_u]
  split
  · exact K.adv _ (K.setR _ _ _ h)
  · exact K.setR _ _ _ (K.known h)
theorem Kp.row (K : Kp f N Q) (h : Q s) : Q (rowP f N t m lo s) := by rw [rowP_u]; exact K.setR _ _ _ (K.setR _ _ _ (K.whole (K.needs (K.whole (K.adv _ h)))))
theorem Kp.rows (K : Kp f N Q) : ∀ j m lo s, Q s → Q (rowsP f N t j m lo s)
  | 0, _, _, _, h => by rw [rowsP]; exact h
  | j + 1, m, lo, s, h => by
    rw [rowsP]
    split
    · split
      · exact K.flaw _ _ h
      · exact Kp.rows K j _ _ _ (K.row h)
    · exact K.setR _ _ _ (K.setR _ _ _ h)
theorem Kp.line (K : Kp f N Q) (h : Q s) : Q (lineP f N s) := by
  rw [lineP_u]
  split
  · rw [deskP_u, dsk4P_u]
    refine K.setD _ (K.setR _ _ _ (K.how (K.needs (K.pt (K.pt (K.adv _ ?_))))))
    split
    · exact K.flaw _ _ h
    · exact h
  · split
    · rw [tabP_u]
      refine K.rows 7 _ _ _ ?_
      have h3 : Q (tab3P f N (cnP s 3) s) := by rw [tab3P_u]; exact K.setR _ _ _ (K.how (K.new (K.adv _ (K.g h))))
      rw [tab4P_u]
      split
      · exact h3
      · exact K.flaw _ _ h3
    · split
      · rw [payP_u]; exact K.setR _ _ _ (K.pt (K.new (K.adv _ (K.g h))))
      · split
        · rw [ordP_u, ord5P_u]; exact K.setR _ _ _ (K.at (K.needs (K.kind (K.pt (K.pt (K.pt (K.new (K.adv _ (K.g h)))))))))
        · exact K.flaw _ _ h
end KP
/-- the text is eaten -/
def MK (N i : Nat) (s : PS) : Prop := i ≤ s.2.1.2.1 ∧ (s.2.1.2.2.1 = 3 → i < s.2.1.2.1) ∧ s.2.1.2.1 ≤ N
theorem Kp_MK : Kp f N (MK N i) := by
  refine ⟨fun c s h => ?_, fun s h => ?_, fun k x s h => ?_, fun k x s h => ?_, fun s h => ?_⟩
  · unfold MK; rw [d_flaw]; exact h
  · rw [advP_u]
    split
    · have hr := tok_rng (f := f) h.2.2
      exact ⟨Nat.le_trans h.1 (Nat.le_trans hr.1 hr.2.1), fun z => by have := hr.2.2.2.2 z; have h1 := h.1; show i < (tokF f N s.2.1.2.1).2.1; omega, hr.2.2.1⟩
    · exact h
  · unfold MK; rw [d_setR.2.2.2]; exact h
  · unfold MK; rw [d_setN.2.2.2]; exact h
  · rw [setD_u]; split <;> exact h
end PAR
