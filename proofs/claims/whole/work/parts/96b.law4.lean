section LAW4
variable {b L : Nat} {xs : Nat → Int32}
/-- the law's loop, with what its turns owe -/
theorem GG.law_loop (hL : L ≤ 3072) (hturn : ∀ (c c0 s0 : Nat) (σ : St) (x5 x6 : Value), INV σ c → c ≤ 512 → 6 * c + 6 ≤ L → c0 + 1 ≤ 601024 → s0 + 6 ≤ 7293034 → (∀ (c1 s1 : Nat) (σ' : St) (y5 y6 : Value), c1 ≤ c0 + 1 → s1 ≤ s0 + 6 → INV σ' (c + 1) → X 15 q_L_law 0 0 0 (GPl b L xs c1 s1) 1444 0 0 [.ref 2000, .ref 0, .ref 89, .ref 106, .int (nI (6 * c)), y5, y6] [] σ') → X 15 q_L_law 0 0 0 (GPl b L xs c0 s0) 1350 0 0 [.ref 2000, .ref 0, .ref 89, .ref 106, .int (nI (6 * c)), x5, x6] [] σ) :
    ∀ (n c c0 s0 : Nat) (σ : St) (x5 x6 : Value), c + n = 513 → INV σ c → c0 ≤ 107 + c → s0 ≤ 5000 + 6 * c → X 15 q_L_law 0 0 0 (GPl b L xs c0 s0) 23 0 0 [.ref 2000, .ref 0, .ref 89, .ref 106, .int (nI (6 * c)), x5, x6] [] σ := by
  intro n
  induction n with
  | zero =>
    intro c c0 s0 σ x5 x6 hc hI h1 h2
    exact law_head hL (by omega) (fun _ => law_out (by omega) (by omega)) (fun z => by omega)
  | succ n ih =>
    intro c c0 s0 σ x5 x6 hc hI h1 h2
    refine law_head hL (by omega) (fun _ => law_out (by omega) (by omega)) (fun hle => ?_)
    have go : ∀ (c1 s1 : Nat) (σ' : St) (y5 y6 : Value), c1 ≤ c0 + 1 → s1 ≤ s0 + 6 → INV σ' (c + 1) → X 15 q_L_law 0 0 0 (GPl b L xs c1 s1) 1444 0 0 [.ref 2000, .ref 0, .ref 89, .ref 106, .int (nI (6 * c)), y5, y6] [] σ' := fun c1 s1 σ' y5 y6 e1 e2 hI' => law_next (ih (c + 1) c1 s1 σ' y5 y6 (by omega) hI' (by omega) (by omega))
    have go0 : ∀ σ' : St, INV σ' (c + 1) → X 15 q_L_law 0 0 0 (GPl b L xs c0 s0) 1444 0 0 [.ref 2000, .ref 0, .ref 89, .ref 106, .int (nI (6 * c)), x5, x6] [] σ' := fun σ' hI' => go c0 s0 σ' x5 x6 (by omega) (by omega) hI'
    refine ⟨fun t ht => ?_, go0 σ (INV_up hI)⟩
    simp only [List.mem_cons, List.not_mem_nil, or_false] at ht
    rcases ht with rfl | rfl | rfl | rfl | rfl | rfl | rfl | rfl | rfl | rfl | rfl | rfl | rfl | rfl | rfl | rfl | rfl | rfl | rfl | rfl | rfl | rfl | rfl | rfl | rfl | rfl | rfl | rfl | rfl | rfl | rfl | rfl | rfl
    · exact law_feed hI (by omega) hle hL go0
    · exact law_desk hI (by omega) hle hL go0
    · exact law_fault hI (by omega) hle hL go0
    · exact law_where hI (by omega) hle hL go0
    · exact law_about hI (by omega) hle hL go0
    · exact law_order hI (by omega) hle hL go0
    · exact law_payer hI (by omega) hle hL go0
    · exact law_table hI (by omega) hle hL go0
    · exact law_row hI (by omega) hle hL go0
    · exact law_floor hI (by omega) hle hL go0
    · exact law_ownFloor hI (by omega) hle hL go0
    · exact law_past hI (by omega) hle hL go0
    · exact law_pastOf hI (by omega) hle hL go0
    · exact law_would hI (by omega) hle hL go0
    · exact law_left hI (by omega) hle hL go0
    · exact law_ranked hI (by omega) hle hL go0
    · exact law_enough hI (by omega) hle hL go0
    · exact law_first hI (by omega) hle hL go0
    · exact law_done hI (by omega) hle hL go0
    · exact law_ahead hI (by omega) hle hL go0
    · exact law_steady hI (by omega) hle hL go0
    · exact law_weeks hI (by omega) hle hL go0
    · exact law_pay hI (by omega) hle hL go0
    · exact law_stop hI (by omega) hle hL go0
    · exact law_rank hI (by omega) hle hL go0
    · exact law_raise hI (by omega) hle hL go0
    · exact law_total hI (by omega) hle hL go0
    · exact law_at hI (by omega) hle hL go0
    · exact law_back hI (by omega) hle hL go0
    · exact law_forgive hI (by omega) hle hL go0
    · exact hturn c c0 s0 σ x5 x6 hI (by omega) hle (by omega) (by omega) go
    · exact law_size hI (by omega) hle hL go0
    · exact law_trouble hI (by omega) hle hL go0
end LAW4
