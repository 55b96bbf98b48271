section START2
variable {args : Array Value} {s : State}
theorem st_in {base : Nat} (hb : base = s.heap.size) : ∀ a : Nat, a < s.heap.size → ¬ Ab base a := fun a ha z => by
  have z : base ≤ a := z
  omega
def rhoOf (base b f : Nat) (adK adV : Nat → Nat) : Nat → Nat := fun k => if k < 1000 then base + k else if k < 1100 then adK (k - 1000) else if k < 1999 then adV (k - 1100) else if k = 1999 then f else b
theorem rho_c {base b f k : Nat} {adK adV : Nat → Nat} (h : k < 1000) : rhoOf base b f adK adV k = base + k := if_pos h
theorem rho_k {base b f i : Nat} {adK adV : Nat → Nat} (h : i < 19) : rhoOf base b f adK adV (1000 + i) = adK i := by
  unfold rhoOf
  rw [if_neg (by omega), if_pos (by omega), Nat.add_sub_cancel_left]
theorem rho_v {base b f i : Nat} {adK adV : Nat → Nat} (h : i < 19) : rhoOf base b f adK adV (1100 + i) = adV i := by
  unfold rhoOf
  rw [if_neg (by omega), if_neg (by omega), if_pos (by omega), Nat.add_sub_cancel_left]
theorem rho_f {base b f : Nat} {adK adV : Nat → Nat} : rhoOf base b f adK adV 1999 = f := by
  unfold rhoOf
  rw [if_neg (by omega), if_neg (by omega), if_neg (by omega), if_pos rfl]
theorem rho_b {base b f : Nat} {adK adV : Nat → Nat} : rhoOf base b f adK adV 2000 = b := by
  unfold rhoOf
  rw [if_neg (by omega), if_neg (by omega), if_neg (by omega), if_neg (by omega)]
theorem NT_of {w : Cond} (hw : w ∈ NT) (h : w.before args s = true) : va_Nw w s := by
  have hf := (List.mem_filter.mp hw).2
  cases w with
  | methodLinkNest a i x hst => exact va_Nw.of rfl h
  | arrayOver ty =>
    simp only [va_Nw, Cond.before, Cond.holds, Cond.value] at h ⊢
    exact h
  | _ => cases hf
theorem st_Ex (hn : ∀ w ∈ flatC narrow_1, w.before args s = true) (hts : ∀ w ∈ lw_tbl, w.before args s = true) {base : Nat} (hb : base = s.heap.size) (b : Nat) : ∃ ρ : Nat → Nat, Ex base ρ s ∧ ρ 2000 = b := by
  obtain ⟨adK, adV, hS, hev⟩ := st_str hn hts hb
  have hA := st_in hb
  have z5 := va_Zqof (A := Ab base) (hts (.laysStatic "jdk/internal/util/Preconditions" "SIOOBE_FORMATTER" "Ljava/util/function/BiFunction;") (tb_in (i := 1219) (by decide +kernel))) (hts (.initialized "jdk/internal/util/Preconditions") (tb_in (i := 107) (by decide +kernel))) (hn _ (List.mem_of_getElem? (i := 5) (by decide +kernel))) hA
  obtain ⟨f, hf⟩ : ∃ f : Nat, va_Z "jdk/internal/util/Preconditions" "SIOOBE_FORMATTER" "Ljava/util/function/BiFunction;" .null (Ab base) s s.heap ∨ va_Z "jdk/internal/util/Preconditions" "SIOOBE_FORMATTER" "Ljava/util/function/BiFunction;" (.ref f) (Ab base) s s.heap := by
    rcases z5 with h | ⟨t, h⟩
    · exact ⟨0, Or.inl h⟩
    · exact ⟨t, Or.inr h⟩
  refine ⟨rhoOf base b f adK adV, ⟨Nat.le_of_eq hb, fun k hk => rho_c hk, ⟨fun i hi => ?_, fun i j hi hj he => ?_⟩, fun i q hq => ?_, fun q hq => ?_, ?_, ?_, ?_, fun w hw => ?_⟩, rho_b⟩
  · dsimp only
    rw [rho_k hi, rho_v hi]
    exact hS.1 i hi
  · dsimp only at he
    rw [rho_k hi, rho_k hj] at he
    exact hS.2 i j hi hj he
  · have hi : i < 19 := (List.getElem?_eq_some_iff.mp hq).1
    rw [rho_k hi]
    have h1 := al_at fl_sr hi
    rw [hq] at h1
    have h2 := hev i hi
    unfold tmS at h2
    rw [hq] at h2
    exact vk_R.of (hts _ (of_decide_eq_true h1)) h2
  · have hq : q = ("java/lang/String", "COMPACT_STRINGS", "Z", 1) ∨ q = ("java/lang/StringUTF16", "$assertionsDisabled", "Z", 1) := by
      unfold stT at hq
      simp only [List.mem_cons, List.not_mem_nil, or_false] at hq
      exact hq
    rcases hq with rfl | rfl
    · exact va_Zof (hts (.laysStatic "java/lang/String" "COMPACT_STRINGS" "Z") (tb_in (i := 1203) (by decide +kernel))) (hts (.initialized "java/lang/String") (tb_in (i := 105) (by decide +kernel))) (va_eqi (hn _ (List.mem_of_getElem? (i := 4) (by decide +kernel)))) hA
    · exact va_Zof (hts (.laysStatic "java/lang/StringUTF16" "$assertionsDisabled" "Z") (tb_in (i := 1237) (by decide +kernel))) (hts (.initialized "java/lang/StringUTF16") (tb_in (i := 108) (by decide +kernel))) (va_eqi (hn _ (List.mem_of_getElem? (i := 6) (by decide +kernel)))) hA
  · exact vx_Zqof (hts (.laysStatic Bundle.tN "UNASSIGNED_STACK" Bundle.steD) (tb_in (i := 1005) (by decide +kernel))) (hts (.initialized Bundle.tN) (tb_in (i := 109) (by decide +kernel))) (hn _ (List.mem_of_getElem? (i := 2) (by decide +kernel))) hA
  · exact vx_Zqof (hts (.laysStatic Bundle.tN "SUPPRESSED_SENTINEL" Bundle.listD) (tb_in (i := 1007) (by decide +kernel))) (hts (.initialized Bundle.tN) (tb_in (i := 109) (by decide +kernel))) (hn _ (List.mem_of_getElem? (i := 3) (by decide +kernel))) hA
  · rw [rho_f]
    exact hf
  · exact NT_of hw (hts w (List.mem_filter.mp hw).1)
end START2
theorem whole_start {p : Program} {e : Env} {s : State} {m : MethodId} {below : List Frame} {meth : Method} {c : Code} (l : Launch) (hflags : l.flags = flags0) {b L : Nat} {xs : Nat → Int32} (hL : L ≤ 3072) (C0 : lw_At p s m meth c b L xs) : W p l e room_1 s m #[Value.ref b] below meth c s.heap [] 0 0 (lw_Z below #[Value.ref b] s) (entryFrame m ([Value.ref b] : List Value).toArray 7) := by
  obtain ⟨c1, c2, c3, c4, c5, hts, c7, c8, c9, hgv⟩ := C0
  have hn : ∀ w ∈ flatC narrow_1, w.before #[Value.ref b] s = true := fun w hw => flat_of_before _ hgv w (List.mem_append_right _ hw)
  obtain ⟨D, aC, hK⟩ := st_K hts
  obtain ⟨ρ, hE, hb⟩ := st_Ex hn hts (rfl : s.heap.size = s.heap.size) b
  have hX := GG.law_begin (b := b) (L := L) (xs := xs) (GG.law_loop hL (fun c c0 s0 σ x5 x6 hI hc hle h1 h2 h => GG.law_turn hL hI hc hle h1 h2 h) 513 0 107 2215 S5 .null .null (by omega) S5_inv (by omega) (by omega))
  rw [lg_entry_eq]
  have hlo := Lo_entry (ρ := ρ) (as := [.ref 2000]) (n := 7) (show 1 ≤ 7 from by omega)
  have e1 : [Value.ref 2000].map (lf ρ) = [Value.ref b] := by
    show [Value.ref (ρ 2000)] = _
    rw [hb]
  rw [e1] at hlo
  exact hX s.heap.size ρ D aC p l e s m _ below meth c s.heap [] _ ⟨hflags, ⟨by show 15 ≤ 15; omega, by show 40 * 15 ≤ 636; omega, by show 0 + 107 ≤ 601024; omega, by show 0 + 2215 ≤ 7293034; omega⟩, rfl, hb, c7, c8, rfl, hts⟩ ⟨c1, c2, c4, c3, c5, c9, trivial, fun w hw => hts w (WT_in hw), hK, hE⟩ ⟨fun k q h => by
    have h : ([] : va_W)[k]? = some q := h
    simp at h, Nat.zero_le _, Nat.le_refl _⟩ va_S.rf hlo ⟨fun _ => Nat.le_refl _, Nat.le_refl _⟩
