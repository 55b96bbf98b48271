/-! the class's steps, tied to the pure parser -/
def S3 (a j : Nat) : Prop := a = 3 ∧ (j = 0 ∨ j = 1 ∨ j = 3 ∨ j = 5 ∨ j = 6)
def L3 (a j : Nat) : Prop := a = 3 ∧ j = 4
/-- the class stands so, nothing is wrong -/
def CT (σ : St) (f : Nat → Int32) (N : Nat) (s : PS) : Prop := RdAt σ f N s.2.1 ∧ s.1 = 0 ∧ gI σ 3 6 = 0
/-- the class has failed so -/
def CF (σ : St) (s : PS) : Prop := ¬ s.1 = 0 ∧ gI σ 3 6 = s.1 ∧ gI σ 3 0 = nI s.2.1.1
section CSTEP
variable {S L S' L' : Nat → Nat → Prop} {σ σ1 σ2 : St} {d N i k n : Nat} {Rt : Option Value → St → Prop} {f : Nat → Int32} {w v : Int64} {s s' : PS} {lo hi x : Int32} {cs : Nat → Nat}
theorem CT_fr (hC : CT σ f N s) (hfr : FrX S L σ σ1) (h2 : ∀ j, ¬ S 2 j) (h3 : ∀ j, j ≠ 5 → j ≠ 7 → ¬ S 3 j) (h4 : ¬ L 3 4) : CT σ1 f N s :=
  ⟨RdAt_fr hC.1 hfr h2 (h3 0 (by omega) (by omega)) (h3 1 (by omega) (by omega)) (h3 2 (by omega) (by omega)) (h3 3 (by omega) (by omega)) h4, hC.2.1, (hfr.I (h3 6 (by omega) (by omega))).trans hC.2.2⟩
theorem CT_eq (hC : CT σ f N s) (h1 : s'.1 = s.1) (h2 : s'.2.1 = s.2.1) : CT σ f N s' := ⟨by rw [h2]; exact hC.1, h1.trans hC.2.1, hC.2.2⟩
theorem CT_sI {a j : Nat} {x : Int32} (hC : CT σ f N s) (ha : a ≠ 2) (ha3 : a ≠ 3) : CT (sI σ a j x) f N s :=
  CT_fr (S := fun b _ => b = a) (L := fun _ _ => False) hC (FrX.rfl.sI rfl) (fun _ z => ha z.symm) (fun _ _ _ z => ha3 z.symm) (fun z => z)
theorem adv_s (h : s.1 = 0) : advP f N s = (0, tokF f N s.2.1.2.1, s.2.2) := by rw [advP_u]; exact if_pos h
theorem isW_iff (h : s.1 = 0) : isWP s w = decide (s.2.1.2.2.1 = 1 ∧ s.2.1.2.2.2 = w) := by rw [isWP_u]; rw [decide_eq_true h, Bool.true_and]
theorem flaw_s (h : s.1 = 0) : flawP x s = (x, s.2) := by rw [flawP_u]; exact if_pos h
theorem CF_of (hC : CT σ f N s) (hx : ¬ x = 0) : CF (sI σ 3 6 x) (flawP x s) := by
  rw [flaw_s hC.2.1]
  refine ⟨hx, gI_same, ?_⟩
  rw [gI_ne (Or.inr (by decide))]
  exact hC.1.2.2.2.2.2.2.1
theorem FrX_f {x : Int32} : FrX S3 L3 σ (sI σ 3 6 x) := FrX.rfl.sI ⟨rfl, by omega⟩
theorem Adv_fr {i : Nat} (h : Adv σ σ1 f N i) : FrX S3 L3 σ σ1 := h.1.mono (fun a b z => by unfold S3; omega) (fun a b z => z)
theorem cIsW (hC : CT σ f N s) (h : Rt (some (.int (bI (isWP s w)))) σ) : Con d q_X7_isWord 0 0 [.ref 3, .long w] σ Rt := C_isWord hC.1 (by rw [← isW_iff hC.2.1]; exact h)
theorem CT_adv (hA : Adv σ σ1 f N s.2.1.2.1) (h0 : s.1 = 0) (h6 : gI σ 3 6 = 0) : CT σ1 f N (advP f N s) := by
  rw [adv_s h0]
  exact ⟨hA.2, rfl, (hA.1.I (by omega)).trans h6⟩
theorem cAdv (hd : 1 ≤ d) (hC : CT σ f N s) (h : ∀ σ', FrX S3 L3 σ σ' → CT σ' f N (advP f N s) → gI σ' 3 5 = gI σ 3 5 → Rt none σ') : Con d q_X7_advance 0 0 [.ref 3, .ref 2] σ Rt := by
  obtain ⟨⟨a1, a2, a3, a4, a5, a6, c0, c1, c3, c4⟩, h0, h6⟩ := hC
  exact C_adv hd a1 a2 a3 a4 c1 a5 (fun σ' hA => h σ' (Adv_fr hA) (CT_adv hA h0 h6) (hA.1.I (by omega)))
theorem nm_n (h : isNm s.2.1 = false) : nmP s = flawP 1 s := by rw [nmP_u]; exact if_neg (fun z => by rw [h] at z; exact absurd z.2 (by decide))
theorem nm_y (h0 : s.1 = 0) (h : isNm s.2.1 = true) : nmP s = s := by rw [nmP_u]; exact if_pos ⟨h0, h⟩
theorem needs_y (h : isWP s w = true) : needsP f N w s = advP f N s := by rw [needsP_u]; rw [if_pos h]
theorem needs_n (h : isWP s w = false) : needsP f N w s = flawP 1 s := by rw [needsP_u]; rw [if_neg (by rw [h]; decide), fz_adv (flaw_0 (by decide))]
theorem cWord (hd : 2 ≤ d) (hC : CT σ f N s) (h1 : ∀ σ', FrX S3 L3 σ σ' → CT σ' f N (needsP f N w s) → gI σ' 3 5 = gI σ 3 5 → Rt (some (.int 1)) σ') (h0 : ∀ σ', FrX S3 L3 σ σ' → CF σ' (needsP f N w s) → Rt (some (.int 0)) σ') : Con d q_X7_passWord 0 0 [.ref 3, .ref 2, .long w] σ Rt := by
  refine C_passWord hd hC.1 (fun hw σ' hA => ?_) (fun hw => ?_)
  · have hy : isWP s w = true := by rw [isW_iff hC.2.1]; exact decide_eq_true hw
    refine h1 σ' (Adv_fr hA) ?_ (hA.1.I (by omega))
    rw [needs_y hy]
    exact CT_adv hA hC.2.1 hC.2.2
  · have hy : isWP s w = false := by rw [isW_iff hC.2.1]; exact decide_eq_false hw
    refine h0 _ FrX_f ?_
    rw [needs_n hy]
    exact CF_of hC (by decide)
theorem cWhole (hd : 2 ≤ d) (hC : CT σ f N s) (h1 : ∀ σ', FrX S3 L3 σ σ' → CT σ' f N (wholeP f N lo hi s) → gI σ' 3 5 = vlP s → Rt (some (.int 1)) σ') (h0 : ∀ σ', FrX S3 L3 σ σ' → CF σ' (wholeP f N lo hi s) → Rt (some (.int 0)) σ') : Con d q_X7_passWhole 0 0 [.ref 3, .ref 2, .int lo, .int hi] σ Rt := by
  refine C_passWhole hd hC.1 (fun hk hr σ' hA => ?_) (fun hk => ?_) (fun hk hr => ?_)
  · have hr' : lo.toInt64 ≤ s.2.1.2.2.2 ∧ s.2.1.2.2.2 ≤ hi.toInt64 := by
      rw [Int64.lt_iff_toInt_lt, Int64.lt_iff_toInt_lt] at hr
      rw [Int64.le_iff_toInt_le, Int64.le_iff_toInt_le]
      omega
    refine h1 σ' ((FrX.rfl.sI ⟨rfl, by omega⟩).trans (Adv_fr hA)) ?_ ((hA.1.I (by omega)).trans gI_same)
    rw [wholeP_u]
    rw [if_pos ⟨hC.2.1, hk⟩, if_pos hr']
    exact CT_adv hA hC.2.1 ((gI_ne (Or.inr (by decide))).trans hC.2.2)
  · refine h0 _ FrX_f ?_
    rw [wholeP_u]
    rw [if_neg (fun z => hk z.2), fz_adv (flaw_0 (by decide))]
    exact CF_of hC (by decide)
  · have hr' : ¬ (lo.toInt64 ≤ s.2.1.2.2.2 ∧ s.2.1.2.2.2 ≤ hi.toInt64) := by
      rw [Int64.lt_iff_toInt_lt, Int64.lt_iff_toInt_lt] at hr
      rw [Int64.le_iff_toInt_le, Int64.le_iff_toInt_le]
      omega
    refine h0 _ FrX_f ?_
    rw [wholeP_u]
    rw [if_pos ⟨hC.2.1, hk⟩, if_neg hr', fz_adv (flaw_0 (by decide))]
    exact CF_of hC (by decide)
/-- the class's names are the pure parser's -/
def NmE (σ : St) (nm : Nat → Int64) (cs : Nat → Nat) : Prop := NmAt σ cs ∧ (cs 0 ≤ 3 ∧ cs 1 ≤ 3) ∧ ∀ n, n < 3 → ∀ k, k < cs n → gL σ (5 + n) k = nm (3 * n + k)
theorem NmE_fr {nm : Nat → Int64} (hM : NmE σ nm cs) (hfr : FrX S L σ σ1) (h8 : ∀ j, ¬ S 8 j) (h5 : ∀ a j, 5 ≤ a → a ≤ 7 → ¬ L a j) : NmE σ1 nm cs :=
  ⟨NmAt_fr hM.1 hfr h8, hM.2.1, fun n hn k hk => (hfr.Lg (h5 (5 + n) k (by omega) (by omega))).trans (hM.2.2 n hn k hk)⟩
theorem fn_cg {g g' : Nat → Int64} : ∀ j k, (∀ i, k ≤ i → i < k + j → g i = g' i) → fnF g w j k = fnF g' w j k
  | 0, _, _ => rfl
  | j + 1, k, h => by
    rw [fnF, fnF, h k (by omega) (by omega), fn_cg j (k + 1) (fun i h1 h2 => h i (by omega) (by omega))]
theorem NmE_fn (hM : NmE σ s.2.2.2.1 cs) (hn : n < 3) : fnF (gL σ (5 + n)) s.2.1.2.2.2 (cs n) 0 = fnP s (3 * n) (cs n) := by
  rw [fnP_u]
  exact fn_cg _ _ (fun i _ h2 => hM.2.2 n hn i (by omega))
def csU (cs : Nat → Nat) (n : Nat) : Nat → Nat := fun i => if i = n then cs n + 1 else cs i
def Sn (a j : Nat) : Prop := S3 a j ∨ a = 8
def Ln (a j : Nat) : Prop := L3 a j ∨ (5 ≤ a ∧ a ≤ 7)
theorem FrX_n (h : FrX S3 L3 σ σ1) : FrX Sn Ln σ σ1 := h.mono (fun _ _ z => Or.inl z) (fun _ _ z => Or.inl z)
theorem cKnown (hd : 2 ≤ d) (hC : CT σ f N s) (hM : NmE σ s.2.2.2.1 cs) (hn : n < 3) (h1 : ∀ σ', FrX S3 L3 σ σ' → CT σ' f N (knownP f N (3 * n) (cs n) s) → gI σ' 3 5 = fnP s (3 * n) (cs n) → Rt (some (.int 1)) σ') (h0 : ∀ σ', FrX S3 L3 σ σ' → CF σ' (knownP f N (3 * n) (cs n) s) → Rt (some (.int 0)) σ') : Con d q_X7_passKnownName 0 0 [.ref 3, .ref 2, .int (nI n)] σ Rt := by
  have hf := NmE_fn hM hn
  refine C_passKnown hd hC.1 hM.1 hn (fun hb hm σ' hA => ?_) (fun hb => ?_) (fun hb hm => ?_)
  · rw [hf] at hm hA
    refine h1 σ' ((FrX.rfl.sI ⟨rfl, by omega⟩).trans (Adv_fr hA)) ?_ ((hA.1.I (by omega)).trans gI_same)
    rw [knownP_u]
    rw [if_neg hm, nm_y hC.2.1 hb]
    exact CT_adv hA hC.2.1 ((gI_ne (Or.inr (by decide))).trans hC.2.2)
  · refine h0 _ FrX_f ?_
    rw [knownP_u]
    rw [nm_n hb, fz_flaw (s := flawP 1 s) (flaw_0 (by decide)), ite_self, fz_adv (flaw_0 (by decide))]
    exact CF_of hC (by decide)
  · rw [hf] at hm
    refine h0 _ FrX_f ?_
    rw [knownP_u]
    rw [if_pos hm, nm_y hC.2.1 hb, fz_adv (flaw_0 (by decide))]
    exact CF_of hC (by decide)
theorem cNew (hd : 2 ≤ d) (hC : CT σ f N s) (hM : NmE σ s.2.2.2.1 cs) (hn : n < 3) (hcs : cs n < 6 ∧ (n < 2 → cs n < 3)) (h1 : ∀ σ', FrX Sn Ln σ σ' → CT σ' f N (newP f N (3 * n) (cs n) s) → NmE σ' (newP f N (3 * n) (cs n) s).2.2.2.1 (csU cs n) → Rt (some (.int 1)) σ') (h0 : ∀ σ', FrX S3 L3 σ σ' → CF σ' (newP f N (3 * n) (cs n) s) → Rt (some (.int 0)) σ') : Con d q_X7_passNewName 0 0 [.ref 3, .ref 2, .int (nI n)] σ Rt := by
  have hf := NmE_fn hM hn
  refine C_passNew hd hC.1 hM.1 hn hcs.1 (fun hb hm σ' hA => ?_) (fun hb => ?_) (fun hb hm => ?_)
  · rw [hf] at hm
    have e : newP f N (3 * n) (cs n) s = advP f N (setN (3 * n + cs n) s.2.1.2.2.2 s) := by
      rw [newP_u]
      rw [if_pos hm, nm_y hC.2.1 hb]
    have en : (setN (3 * n + cs n) s.2.1.2.2.2 s).1 = 0 := d_setN.2.2.1.trans hC.2.1
    have em : (newP f N (3 * n) (cs n) s).2.2.2.1 = updL s.2.2.2.1 (3 * n + cs n) s.2.1.2.2.2 := by
      rw [e, d_adv]
      rw [setN_u]
      rw [if_pos hC.2.1]
    have fr : FrX Sn Ln σ σ' := ((FrX.rfl.sL (Or.inr ⟨by omega, by omega⟩)).sI (Or.inr rfl)).trans (FrX_n (Adv_fr hA))
    refine h1 σ' fr ?_ ?_
    · rw [e]
      refine CT_adv (σ := sI (sL σ (5 + n) (cs n) s.2.1.2.2.2) 8 n (nI (cs n + 1))) ?_ en ?_
      · rw [d_setN.2.2.2]; exact hA
      · rw [gI_ne (Or.inl (by decide))]; exact hC.2.2
    · rw [em]
      obtain ⟨⟨hN, n8, n9, n4, nc⟩, hk, hr⟩ := hM
      refine ⟨⟨fr.2.1.trans hN, by rw [fr.1]; exact n8, by rw [fr.1]; exact n9, by rw [fr.1]; exact n4, fun i hi => ?_⟩, ?_, fun i hi k hk' => ?_⟩
      · unfold csU
        by_cases hin : i = n
        · rw [if_pos hin, hin]
          exact ⟨(hA.1.I (by omega)).trans gI_same, by omega⟩
        · rw [if_neg hin]
          exact ⟨(hA.1.I (by omega)).trans ((gI_ne (Or.inr hin)).trans (nc i hi).1), (nc i hi).2⟩
      · unfold csU
        constructor
        · split
          · rename_i z; have := hcs.2 (by omega); rw [← z]; rw [← z] at this; omega
          · exact hk.1
        · split
          · rename_i z; have := hcs.2 (by omega); rw [← z]; rw [← z] at this; omega
          · exact hk.2
      · rw [hA.1.Lg (by omega)]
        show gL (sL σ (5 + n) (cs n) s.2.1.2.2.2) (5 + i) k = updL s.2.2.2.1 (3 * n + cs n) s.2.1.2.2.2 (3 * i + k)
        have b0 := hk.1
        have b1 := hk.2
        unfold csU at hk'
        unfold updL
        by_cases hin : i = n
        · rw [if_pos hin] at hk'
          subst hin
          by_cases hkk : k = cs i
          · subst hkk
            rw [gL_same, if_pos rfl]
          · rw [gL_ne (Or.inr hkk), if_neg (by omega)]
            exact hr i hi k (by omega)
        · rw [if_neg hin] at hk'
          have hne : 3 * i + k ≠ 3 * n + cs n := by
            have c2 := hcs.2
            have hi3 : i = 0 ∨ i = 1 ∨ i = 2 := by omega
            have hn3 : n = 0 ∨ n = 1 ∨ n = 2 := by omega
            rcases hi3 with rfl | rfl | rfl <;> rcases hn3 with rfl | rfl | rfl <;> simp only [Nat.reduceLT, true_implies] at c2 <;> omega
          rw [gL_ne (Or.inl (by omega)), if_neg hne]
          exact hr i hi k hk'
  · refine h0 _ FrX_f ?_
    rw [newP_u]
    rw [nm_n hb, fz_flaw (s := flawP 1 s) (flaw_0 (by decide)), ite_self, fz_setN (flaw_0 (by decide)), fz_adv (flaw_0 (by decide))]
    exact CF_of hC (by decide)
  · rw [hf] at hm
    refine h0 _ FrX_f ?_
    rw [newP_u]
    rw [if_neg hm, nm_y hC.2.1 hb, fz_setN (flaw_0 (by decide)), fz_adv (flaw_0 (by decide))]
    exact CF_of hC (by decide)
end CSTEP
/-! the class's desk as far as it was read -/
def DEq (σ : St) (b : Nat) (R : Nat → Int32) (hd : Bool) (nt np no : Nat) : Prop :=
  (gI σ b 3 = nI nt ∧ gI σ b 4 = nI np ∧ gI σ b 5 = nI no ∧ gI σ b 9 = 0) ∧ (hd = true → gI σ b 6 = R 0 ∧ gI σ b 7 = R 1 ∧ gI σ b 8 = R 2) ∧
  (∀ t, t < nt → gI σ (b + 4 + 3 * t) 2 = R (9 + t) ∧ gI σ (b + 4 + 3 * t) 3 = (if R (6 + t) = 1 then 0 else 1) ∧ ∀ m, m ≤ 6 → R (9 + t) = nI m → ∀ i, i < m → gI σ (b + 4 + 3 * t + 1) i = R (12 + 6 * t + i) ∧ gI σ (b + 4 + 3 * t + 2) i = R (30 + 6 * t + i)) ∧
  (∀ p, p < np → gI σ (b + 13 + p) 0 = R (48 + p) ∧ gI σ (b + 13 + p) 1 = 0 ∧ gI σ (b + 13 + p) 2 = 0 ∧ gI σ (b + 13 + p) 3 = 0) ∧
  ∀ o, o < no → (∀ j, j < 6 → gI σ (b + 16 + o) j = R (51 + 6 * j + o)) ∧ gI σ (b + 16 + o) 6 = 0 ∧ gI σ (b + 16 + o) 7 = 0 ∧ gI σ (b + 16 + o) 8 = 0 ∧ gI σ (b + 16 + o) 9 = 0
def csF (nt np no : Nat) : Nat → Nat := fun i => if i = 0 then nt else if i = 1 then np else no
def CL (σ : St) (f : Nat → Int32) (N b : Nat) (s : PS) : Prop := CT σ f N s ∧ DeskAt σ b ∧ gI σ 3 7 = bI s.2.2.1 ∧
  ∃ nt np no, RB s.2.2.2.2 nt np no ∧ (s.2.2.1 = false → nt = 0 ∧ np = 0 ∧ no = 0) ∧ NmE σ s.2.2.2.1 (csF nt np no) ∧ DEq σ b s.2.2.2.2 s.2.2.1 nt np no
section DEQ
variable {S L : Nat → Nat → Prop} {σ σ' : St} {b nt np no a c e : Nat} {R R' : Nat → Int32} {hd : Bool} {s : PS}
theorem DEq_fr (h : DEq σ b R hd nt np no) (hb : nt ≤ 3 ∧ np ≤ 3 ∧ no ≤ 6) (hfr : FrX S L σ σ') (hS : ∀ a j, b ≤ a → a ≤ b + 21 → ¬ S a j) : DEq σ' b R hd nt np no := by
  obtain ⟨⟨c1, c2, c3, c4⟩, hk, hT, hP, hO⟩ := h
  have e : ∀ a j, b ≤ a → a ≤ b + 21 → gI σ' a j = gI σ a j := fun a j x y => hfr.I (hS a j x y)
  refine ⟨?_, fun z => ?_, fun t ht => ?_, fun p hp => ?_, fun o ho => ?_⟩
  · rw [e b 3 (by omega) (by omega), e b 4 (by omega) (by omega), e b 5 (by omega) (by omega), e b 9 (by omega) (by omega)]
    exact ⟨c1, c2, c3, c4⟩
  · rw [e b 6 (by omega) (by omega), e b 7 (by omega) (by omega), e b 8 (by omega) (by omega)]
    exact hk z
  · obtain ⟨t1, t2, t3⟩ := hT t ht
    refine ⟨(e _ _ (by omega) (by omega)).trans t1, (e _ _ (by omega) (by omega)).trans t2, fun m hm z i hi => ?_⟩
    rw [e (b + 4 + 3 * t + 1) i (by omega) (by omega), e (b + 4 + 3 * t + 2) i (by omega) (by omega)]
    exact t3 m hm z i hi
  · rw [e _ 0 (by omega) (by omega), e _ 1 (by omega) (by omega), e _ 2 (by omega) (by omega), e _ 3 (by omega) (by omega)]
    exact hP p hp
  · obtain ⟨o1, o2⟩ := hO o ho
    refine ⟨fun j hj => (e _ _ (by omega) (by omega)).trans (o1 j hj), ?_⟩
    rw [e _ 6 (by omega) (by omega), e _ 7 (by omega) (by omega), e _ 8 (by omega) (by omega), e _ 9 (by omega) (by omega)]
    exact o2
theorem RB_un (h : RB R a c e) (h1 : R 3 = nI nt) (h2 : R 4 = nI np) (h3 : R 5 = nI no) (hb : nt ≤ 6 ∧ np ≤ 6 ∧ no ≤ 6) : RB R nt np no := by
  have e1 : nt = a := (nI_inj (by omega) (by have := h.1.1; omega)).mp (h1.symm.trans h.2.1.1)
  have e2 : np = c := (nI_inj (by omega) (by have := h.1.2.1; omega)).mp (h2.symm.trans h.2.1.2.1)
  have e3 : no = e := (nI_inj (by omega) (by have := h.1.2.2; omega)).mp (h3.symm.trans h.2.1.2.2)
  subst e1 e2 e3
  exact h
theorem DEq_desk (h : DEq σ b R hd nt np no) (hb : nt ≤ 3 ∧ np ≤ 3 ∧ no ≤ 6) (e : ∀ a j, b ≤ a → a ≤ b + 21 → ¬ (a = b ∧ (j = 6 ∨ j = 7 ∨ j = 8)) → gI σ' a j = gI σ a j) (eR : ∀ i, 2 < i → R' i = R i) (n1 : gI σ' b 6 = R' 0 ∧ gI σ' b 7 = R' 1 ∧ gI σ' b 8 = R' 2) : DEq σ' b R' true nt np no := by
  obtain ⟨⟨c1, c2, c3, c4⟩, hk, hT, hP, hO⟩ := h
  refine ⟨?_, fun z => n1, fun t ht => ?_, fun p hp => ?_, fun o ho => ?_⟩
  · rw [e b 3 (by omega) (by omega) (by omega), e b 4 (by omega) (by omega) (by omega), e b 5 (by omega) (by omega) (by omega), e b 9 (by omega) (by omega) (by omega)]
    exact ⟨c1, c2, c3, c4⟩
  · obtain ⟨t1, t2, t3⟩ := hT t ht
    rw [e _ 2 (by omega) (by omega) (by omega), e _ 3 (by omega) (by omega) (by omega), eR _ (by omega), eR (6 + t) (by omega)]
    refine ⟨t1, t2, fun m hm z i hi => ?_⟩
    rw [e (b + 4 + 3 * t + 1) i (by omega) (by omega) (by omega), e (b + 4 + 3 * t + 2) i (by omega) (by omega) (by omega), eR (12 + 6 * t + i) (by omega), eR (30 + 6 * t + i) (by omega)]
    exact t3 m hm z i hi
  · rw [e _ 0 (by omega) (by omega) (by omega), e _ 1 (by omega) (by omega) (by omega), e _ 2 (by omega) (by omega) (by omega), e _ 3 (by omega) (by omega) (by omega), eR _ (by omega)]
    exact hP p hp
  · obtain ⟨o1, o2⟩ := hO o ho
    refine ⟨fun j hj => by rw [e _ _ (by omega) (by omega) (by omega), eR _ (by omega)]; exact o1 j hj, ?_⟩
    rw [e _ 6 (by omega) (by omega) (by omega), e _ 7 (by omega) (by omega) (by omega), e _ 8 (by omega) (by omega) (by omega), e _ 9 (by omega) (by omega) (by omega)]
    exact o2
theorem DEq_pay (h : DEq σ b R hd nt np no) (hb : nt ≤ 3 ∧ np < 3 ∧ no ≤ 6) (e : ∀ a j, b ≤ a → a ≤ b + 21 → a ≠ b + 13 + np → ¬ (a = b ∧ j = 4) → gI σ' a j = gI σ a j) (eR : ∀ i, i ≠ 4 → i ≠ 48 + np → R' i = R i) (n1 : gI σ' b 4 = nI (np + 1)) (n2 : gI σ' (b + 13 + np) 0 = R' (48 + np) ∧ gI σ' (b + 13 + np) 1 = 0 ∧ gI σ' (b + 13 + np) 2 = 0 ∧ gI σ' (b + 13 + np) 3 = 0) : DEq σ' b R' hd nt (np + 1) no := by
  obtain ⟨⟨c1, c2, c3, c4⟩, hk, hT, hP, hO⟩ := h
  refine ⟨?_, fun z => ?_, fun t ht => ?_, fun p hp => ?_, fun o ho => ?_⟩
  · rw [e b 3 (by omega) (by omega) (by omega) (by omega), e b 5 (by omega) (by omega) (by omega) (by omega), e b 9 (by omega) (by omega) (by omega) (by omega)]
    exact ⟨c1, n1, c3, c4⟩
  · rw [e b 6 (by omega) (by omega) (by omega) (by omega), e b 7 (by omega) (by omega) (by omega) (by omega), e b 8 (by omega) (by omega) (by omega) (by omega), eR 0 (by omega) (by omega), eR 1 (by omega) (by omega), eR 2 (by omega) (by omega)]
    exact hk z
  · obtain ⟨t1, t2, t3⟩ := hT t ht
    rw [e _ 2 (by omega) (by omega) (by omega) (by omega), e _ 3 (by omega) (by omega) (by omega) (by omega), eR (9 + t) (by omega) (by omega), eR (6 + t) (by omega) (by omega)]
    refine ⟨t1, t2, fun m hm z i hi => ?_⟩
    rw [e (b + 4 + 3 * t + 1) i (by omega) (by omega) (by omega) (by omega), e (b + 4 + 3 * t + 2) i (by omega) (by omega) (by omega) (by omega), eR (12 + 6 * t + i) (by omega) (by omega), eR (30 + 6 * t + i) (by omega) (by omega)]
    exact t3 m hm z i hi
  · by_cases hpp : p = np
    · subst hpp; exact n2
    · rw [e _ 0 (by omega) (by omega) (by omega) (by omega), e _ 1 (by omega) (by omega) (by omega) (by omega), e _ 2 (by omega) (by omega) (by omega) (by omega), e _ 3 (by omega) (by omega) (by omega) (by omega), eR _ (by omega) (by omega)]
      exact hP p (by omega)
  · obtain ⟨o1, o2⟩ := hO o ho
    refine ⟨fun j hj => by rw [e _ _ (by omega) (by omega) (by omega) (by omega), eR _ (by omega) (by omega)]; exact o1 j hj, ?_⟩
    rw [e _ 6 (by omega) (by omega) (by omega) (by omega), e _ 7 (by omega) (by omega) (by omega) (by omega), e _ 8 (by omega) (by omega) (by omega) (by omega), e _ 9 (by omega) (by omega) (by omega) (by omega)]
    exact o2
theorem DEq_ord (h : DEq σ b R hd nt np no) (hb : nt ≤ 3 ∧ np ≤ 3 ∧ no < 6) (e : ∀ a j, b ≤ a → a ≤ b + 21 → a ≠ b + 16 + no → ¬ (a = b ∧ j = 5) → gI σ' a j = gI σ a j) (eR : ∀ i, i ≠ 5 → (∀ j, j < 6 → i ≠ 51 + 6 * j + no) → R' i = R i) (n1 : gI σ' b 5 = nI (no + 1)) (n2 : ∀ j, j < 6 → gI σ' (b + 16 + no) j = R' (51 + 6 * j + no)) (n3 : gI σ' (b + 16 + no) 6 = 0 ∧ gI σ' (b + 16 + no) 7 = 0 ∧ gI σ' (b + 16 + no) 8 = 0 ∧ gI σ' (b + 16 + no) 9 = 0) : DEq σ' b R' hd nt np (no + 1) := by
  obtain ⟨⟨c1, c2, c3, c4⟩, hk, hT, hP, hO⟩ := h
  refine ⟨?_, fun z => ?_, fun t ht => ?_, fun p hp => ?_, fun o ho => ?_⟩
  · rw [e b 3 (by omega) (by omega) (by omega) (by omega), e b 4 (by omega) (by omega) (by omega) (by omega), e b 9 (by omega) (by omega) (by omega) (by omega)]
    exact ⟨c1, c2, n1, c4⟩
  · rw [e b 6 (by omega) (by omega) (by omega) (by omega), e b 7 (by omega) (by omega) (by omega) (by omega), e b 8 (by omega) (by omega) (by omega) (by omega), eR 0 (by omega) (fun j hj => by omega), eR 1 (by omega) (fun j hj => by omega), eR 2 (by omega) (fun j hj => by omega)]
    exact hk z
  · obtain ⟨t1, t2, t3⟩ := hT t ht
    rw [e _ 2 (by omega) (by omega) (by omega) (by omega), e _ 3 (by omega) (by omega) (by omega) (by omega), eR (9 + t) (by omega) (fun j hj => by omega), eR (6 + t) (by omega) (fun j hj => by omega)]
    refine ⟨t1, t2, fun m hm z i hi => ?_⟩
    rw [e (b + 4 + 3 * t + 1) i (by omega) (by omega) (by omega) (by omega), e (b + 4 + 3 * t + 2) i (by omega) (by omega) (by omega) (by omega), eR (12 + 6 * t + i) (by omega) (fun j hj => by omega), eR (30 + 6 * t + i) (by omega) (fun j hj => by omega)]
    exact t3 m hm z i hi
  · rw [e _ 0 (by omega) (by omega) (by omega) (by omega), e _ 1 (by omega) (by omega) (by omega) (by omega), e _ 2 (by omega) (by omega) (by omega) (by omega), e _ 3 (by omega) (by omega) (by omega) (by omega), eR _ (by omega) (fun j hj => by omega)]
    exact hP p hp
  · by_cases hoo : o = no
    · subst hoo; exact ⟨n2, n3⟩
    · obtain ⟨o1, o2⟩ := hO o (by omega)
      refine ⟨fun j hj => by rw [e _ _ (by omega) (by omega) (by omega) (by omega), eR _ (by omega) (fun i hi => by omega)]; exact o1 j hj, ?_⟩
      rw [e _ 6 (by omega) (by omega) (by omega) (by omega), e _ 7 (by omega) (by omega) (by omega) (by omega), e _ 8 (by omega) (by omega) (by omega) (by omega), e _ 9 (by omega) (by omega) (by omega) (by omega)]
      exact o2
theorem DEq_tab (h : DEq σ b R hd nt np no) (hb : nt < 3 ∧ np ≤ 3 ∧ no ≤ 6) (e : ∀ a j, b ≤ a → a ≤ b + 21 → ¬ (b + 4 + 3 * nt ≤ a ∧ a ≤ b + 6 + 3 * nt) → ¬ (a = b ∧ j = 3) → gI σ' a j = gI σ a j) (eR : ∀ i, i ≠ 3 → i ≠ 6 + nt → i ≠ 9 + nt → ¬ (12 + 6 * nt ≤ i ∧ i < 18 + 6 * nt) → ¬ (30 + 6 * nt ≤ i ∧ i < 36 + 6 * nt) → R' i = R i) (n1 : gI σ' b 3 = nI (nt + 1))
    (n2 : gI σ' (b + 4 + 3 * nt) 2 = R' (9 + nt) ∧ gI σ' (b + 4 + 3 * nt) 3 = (if R' (6 + nt) = 1 then 0 else 1) ∧ ∀ m, m ≤ 6 → R' (9 + nt) = nI m → ∀ i, i < m → gI σ' (b + 4 + 3 * nt + 1) i = R' (12 + 6 * nt + i) ∧ gI σ' (b + 4 + 3 * nt + 2) i = R' (30 + 6 * nt + i)) : DEq σ' b R' hd (nt + 1) np no := by
  obtain ⟨⟨c1, c2, c3, c4⟩, hk, hT, hP, hO⟩ := h
  refine ⟨?_, fun z => ?_, fun t ht => ?_, fun p hp => ?_, fun o ho => ?_⟩
  · rw [e b 4 (by omega) (by omega) (by omega) (by omega), e b 5 (by omega) (by omega) (by omega) (by omega), e b 9 (by omega) (by omega) (by omega) (by omega)]
    exact ⟨n1, c2, c3, c4⟩
  · rw [e b 6 (by omega) (by omega) (by omega) (by omega), e b 7 (by omega) (by omega) (by omega) (by omega), e b 8 (by omega) (by omega) (by omega) (by omega), eR 0 (by omega) (by omega) (by omega) (by omega) (by omega), eR 1 (by omega) (by omega) (by omega) (by omega) (by omega), eR 2 (by omega) (by omega) (by omega) (by omega) (by omega)]
    exact hk z
  · by_cases htt : t = nt
    · subst htt; exact n2
    · obtain ⟨t1, t2, t3⟩ := hT t (by omega)
      rw [e _ 2 (by omega) (by omega) (by omega) (by omega), e _ 3 (by omega) (by omega) (by omega) (by omega), eR (9 + t) (by omega) (by omega) (by omega) (by omega) (by omega), eR (6 + t) (by omega) (by omega) (by omega) (by omega) (by omega)]
      refine ⟨t1, t2, fun m hm z i hi => ?_⟩
      rw [e (b + 4 + 3 * t + 1) i (by omega) (by omega) (by omega) (by omega), e (b + 4 + 3 * t + 2) i (by omega) (by omega) (by omega) (by omega), eR (12 + 6 * t + i) (by omega) (by omega) (by omega) (by omega) (by omega), eR (30 + 6 * t + i) (by omega) (by omega) (by omega) (by omega) (by omega)]
      exact t3 m hm z i hi
  · rw [e _ 0 (by omega) (by omega) (by omega) (by omega), e _ 1 (by omega) (by omega) (by omega) (by omega), e _ 2 (by omega) (by omega) (by omega) (by omega), e _ 3 (by omega) (by omega) (by omega) (by omega), eR _ (by omega) (by omega) (by omega) (by omega) (by omega)]
    exact hP p hp
  · obtain ⟨o1, o2⟩ := hO o ho
    refine ⟨fun j hj => by rw [e _ _ (by omega) (by omega) (by omega) (by omega), eR _ (by omega) (by omega) (by omega) (by omega) (by omega)]; exact o1 j hj, ?_⟩
    rw [e _ 6 (by omega) (by omega) (by omega) (by omega), e _ 7 (by omega) (by omega) (by omega) (by omega), e _ 8 (by omega) (by omega) (by omega) (by omega), e _ 9 (by omega) (by omega) (by omega) (by omega)]
    exact o2
end DEQ
