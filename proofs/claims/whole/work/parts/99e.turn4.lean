section TURN4
variable {n0 : Nat} {Rt : Option Value → St → Prop} {σ : St} {x i : Int32} {A : Prop}
theorem Lo_entry {ρ : Nat → Nat} {as : List Value} {n : Nat} (hen : (enA as).length ≤ n) : Lo ρ (enL n as) ((lg_sl (as.map (lf ρ)) ++ List.replicate (n - (lg_sl (as.map (lf ρ))).length) Slot.unset).toArray) n := by
  have hl := lv_entry (as.map (lf ρ)) (n := n) (by rw [enA_len]; exact hen)
  refine ⟨hl.1, hl.2.1, ?_, ?_⟩
  · unfold enL
    rw [List.length_append, List.length_replicate]
    omega
  · intro i v hi hn
    unfold enL at hi
    by_cases hlt : i < (enA as).length
    · rw [List.getElem?_append_left hlt] at hi
      have h1 := enA_at ρ as i v hi hn
      rw [List.getElem?_toArray, List.getElem?_append_left (by rw [enA_len]; exact hlt)]
      exact h1
    · rw [List.getElem?_append_right (by omega)] at hi
      have := List.mem_of_getElem? hi
      exact absurd (List.eq_of_mem_replicate this) hn
def Pt (base : Nat) (ρ : Nat → Nat) (D : va_G) (aC : Nat → ClassId) (as : List Value) (σ : St) : Array Value → State → Prop := fun v U => Pf base ρ D aC 0 as σ v U ∧ ET U
theorem Pt_blind {base : Nat} {ρ : Nat → Nat} {D : va_G} {aC : Nat → ClassId} {as : List Value} : FrameBlind (Pt base ρ D aC as σ) := by
  intro a U g mk h
  exact ⟨Pf_blind _ _ _ _ h.1, fun w hw => va_Nw.same (u := U) (by have h1 := List.all_eq_true.mp EW_ok w hw; rw [Bool.and_eq_true] at h1; exact h1.1) rfl (h.2 w hw)⟩
theorem m_turn (hwalk : GG.X 13 q_X9_turn (gN σ) 0 0 (GPt (gN σ) Rt σ A) 0 0 0 [.ref 0, .int x, .int i, .null] [] σ) {base : Nat} {ρ : Nat → Nat} {D : va_G} {aC : Nat → ClassId} {l : Launch} (hfl : l.flags = flags0) :
    vx_Met l yX9_turn (.code yX9_turn cX9_turn 4 (some .int) :: WT) (rmOf 13 1 6) (Pt base ρ D aC [.ref 0, .int x, .int i] σ) (Qf base ρ D aC (gN σ) 0 Rt) (XCt A base ρ D aC σ) 1 6 (Ab base) := by
  refine vx_ofW (cc := cX9_turn) (maxL := 4) (ret := some .int) (by decide +kernel) rfl ?_
  intro p e s m args below meth c s₁ B hml hex hv
  obtain ⟨⟨rfl, hWd, hz, hK, hE⟩, hET⟩ := hv
  have hts := atoms_spec (ws := .code yX9_turn cX9_turn 4 (some .int) :: WT) B.pre
  rw [lg_entry_eq]
  exact hwalk base ρ D aC p l e s m _ below meth c s.heap [] _ ⟨hfl, ⟨by show 13 ≤ 13; omega, by show 40 * 13 ≤ 40 * 13; omega, by show 0 + 0 ≤ 1; omega, by show 0 + 0 ≤ 6; omega⟩, hex, hET⟩ ⟨B.exec, B.bytes, hml, B.returns, findClass_of_methodNamed B.named, B.notSynchronized, trivial, fun w hw => hts w (List.mem_cons_of_mem _ hw), hK, hE⟩ hWd va_S.rf (Lo_entry (as := [.ref 0, .int x, .int i]) (show 3 ≤ 4 from by omega)) ⟨fun z => absurd z (Nat.lt_irrefl 0), Nat.le_refl _⟩
end TURN4
