/-! min and max as they are named here -/
section MINMAX
variable {d cf sf nL nx ce se κ : Nat} {Rt : Option Value → St → Prop} {K : Nat → Nat → Nat → List Value → List Value → St → Prop} {a : List Nat} {w : Cond} {ls st : List Value} {σ : St}
theorem st_minI {n : Nat} : stp d cf sf nL Rt K (.invokestatic n, nx, 1, a, w) ce se ls st σ = (0 < d ∧ pI st fun y r => pI r fun x r => (cats r ≤ 8 ∧ ce ≤ cf ∧ se ≤ sf) ∧ K nx ce se ls (.int (minI x y) :: r) σ) := rfl
theorem st_maxI {n : Nat} : stp d cf sf nL Rt K (.invokestatic n, nx, 2, a, w) ce se ls st σ = (0 < d ∧ pI st fun y r => pI r fun x r => (cats r ≤ 8 ∧ ce ≤ cf ∧ se ≤ sf) ∧ K nx ce se ls (.int (maxI x y) :: r) σ) := rfl
end MINMAX
