/-- what a piece of work leaves as it was: all but the numbers at S -/
def Fr (S : Nat → Nat → Prop) (σ σ' : St) : Prop := gR σ' = gR σ ∧ gL σ' = gL σ ∧ gN σ' = gN σ ∧ ∀ a b, ¬ S a b → gI σ' a b = gI σ a b
section FR
variable {S T : Nat → Nat → Prop} {σ σ' σ'' : St}
theorem Fr.rfl : Fr S σ σ := ⟨Eq.refl _, Eq.refl _, Eq.refl _, fun _ _ _ => Eq.refl _⟩
theorem Fr.trans (h : Fr S σ σ') (h' : Fr S σ' σ'') : Fr S σ σ'' := ⟨h'.1.trans h.1, h'.2.1.trans h.2.1, h'.2.2.1.trans h.2.2.1, fun a b z => (h'.2.2.2 a b z).trans (h.2.2.2 a b z)⟩
theorem Fr.mono (h : Fr S σ σ') (hs : ∀ a b, S a b → T a b) : Fr T σ σ' := ⟨h.1, h.2.1, h.2.2.1, fun a b z => h.2.2.2 a b (fun y => z (hs a b y))⟩
theorem Fr.sI {k j : Nat} {v : Int32} (h : Fr S σ σ') (hs : S k j) : Fr S σ (sI σ' k j v) := ⟨h.1, h.2.1, h.2.2.1, fun a b z => (if_neg (fun y => z (by rw [y.1, y.2]; exact hs))).trans (h.2.2.2 a b z)⟩
theorem Fr.I (h : Fr S σ σ') {a b : Nat} (z : ¬ S a b) : gI σ' a b = gI σ a b := h.2.2.2 a b z
theorem Fr.row (h : Fr S σ σ') {a : Nat} (z : ∀ b, ¬ S a b) : gI σ' a = gI σ a := funext fun b => h.2.2.2 a b (z b)
end FR
/-- how many of those o < n are so; which they are, in their order -/
def cN (sel : Nat → Bool) : Nat → Nat
  | 0 => 0
  | n + 1 => if sel n then cN sel n + 1 else cN sel n
def grF (sel : Nat → Bool) : Nat → Nat → Nat
  | 0 => fun _ => 0
  | n + 1 => if sel n then (fun k => if k = cN sel n then n else grF sel n k) else grF sel n
theorem cN_le (sel : Nat → Bool) : ∀ n, cN sel n ≤ n
  | 0 => Nat.le_refl 0
  | n + 1 => by
    have := cN_le sel n
    rw [cN]
    split <;> omega
theorem grF_lt (sel : Nat → Bool) : ∀ n k, k < cN sel n → grF sel n k < n ∧ sel (grF sel n k) = true
  | 0, k, h => absurd h (Nat.not_lt_zero k)
  | n + 1, k, h => by
    rw [cN] at h
    rw [grF]
    by_cases hs : sel n = true
    · rw [if_pos hs] at h ⊢
      show (if k = cN sel n then n else grF sel n k) < n + 1 ∧ sel (if k = cN sel n then n else grF sel n k) = true
      by_cases hk : k = cN sel n
      · rw [if_pos hk]
        exact ⟨Nat.lt_succ_self n, hs⟩
      · rw [if_neg hk]
        have := grF_lt sel n k (by omega)
        exact ⟨by omega, this.2⟩
    · rw [if_neg hs] at h ⊢
      have := grF_lt sel n k h
      exact ⟨by omega, this.2⟩
section FOLD
variable {α : Type}
/-- through a row of numbers; through those o < n that are so -/
def foldL (gr : Nat → Nat) (st : α → Nat → α) : Nat → α → α
  | 0, s => s
  | k + 1, s => st (foldL gr st k s) (gr k)
def foldB (sel : Nat → Bool) (st : α → Nat → α) : Nat → α → α
  | 0, s => s
  | n + 1, s => if sel n then st (foldB sel st n s) n else foldB sel st n s
theorem foldL_congr {g g' : Nat → Nat} (st : α → Nat → α) (s : α) : ∀ k, (∀ j, j < k → g j = g' j) → foldL g st k s = foldL g' st k s
  | 0, _ => rfl
  | k + 1, h => by rw [foldL, foldL, foldL_congr st s k (fun j hj => h j (by omega)), h k (by omega)]
theorem foldL_grF (sel : Nat → Bool) (st : α → Nat → α) (s : α) : ∀ n, foldL (grF sel n) st (cN sel n) s = foldB sel st n s
  | 0 => rfl
  | n + 1 => by
    rw [foldB, cN, grF]
    by_cases hs : sel n = true
    · rw [if_pos hs, if_pos hs, if_pos hs, foldL, foldL_congr (g' := grF sel n) st s (cN sel n) (fun j hj => if_neg (by omega)), foldL_grF sel st s n]
      show st _ (if cN sel n = cN sel n then n else _) = _
      rw [if_pos rfl]
    · rw [if_neg hs, if_neg hs, if_neg hs, foldL_grF sel st s n]
end FOLD
theorem passL_fold {gr : Nat → Nat} {amt : (Nat → Int32) × Int32 → Nat → Int32} {s : (Nat → Int32) × Int32} : ∀ c, passL gr amt c s = foldL gr (fun u o => gv u o (amt u o)) c s
  | 0 => rfl
  | c + 1 => by rw [passL, foldL, passL_fold c]
theorem pass_fold {sel : Nat → Bool} {amt : (Nat → Int32) × Int32 → Nat → Int32} {s : (Nat → Int32) × Int32} : ∀ n, pass (fun _ o => sel o) amt n s = foldB sel (fun u o => gv u o (amt u o)) n s
  | 0 => rfl
  | n + 1 => by rw [pass, foldB, pass_fold n]
/-- the group: which, how many, what they want yet -/
def gaS (sel : Nat → Bool) (w : Nat → Int32) (x : (Nat → Nat) × Nat × Int32) (o : Nat) : (Nat → Nat) × Nat × Int32 := if sel o then (fun k => if k = x.2.1 then o else x.1 k, x.2.1 + 1, x.2.2 + w o) else x
theorem gaS_fold (M sel : Nat → Bool) (w : Nat → Int32) : ∀ n, foldB M (gaS sel w) n (fun _ => 0, 0, 0) = (grF (fun o => M o && sel o) n, cN (fun o => M o && sel o) n, sumB (fun o => M o && sel o) w n)
  | 0 => rfl
  | n + 1 => by
    rw [foldB, gaS_fold M sel w n, grF, cN, sumB, gaS]
    cases hM : M n <;> cases hs : sel n <;> simp [hM, hs]
theorem gaS_le (sel : Nat → Bool) (w : Nat → Int32) (gm : Nat → Nat) : ∀ k, (foldL gm (gaS sel w) k (fun _ => 0, 0, 0)).2.1 ≤ k
  | 0 => Nat.le_refl 0
  | k + 1 => by
    have := gaS_le sel w gm k
    rw [foldL, gaS]
    split
    · show _ + 1 ≤ _
      omega
    · omega
