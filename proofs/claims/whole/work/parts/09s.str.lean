/-! the String constants: cells 1000 .. 1018, their bytes 1100 .. 1118; statics -/
section XSTR
variable {d : Nat} {q : MI} {n0 cf sf : Nat} {Rt : Option Value → St → Prop} {pc ce se : Nat} {ls st : List Value} {σ : St}
theorem x_sval {n : Nat} (w : .fieldLink q.1.cls n "java/lang/String" "value" "[B" ∈ WT) (hd : decode q.2.1 pc = .ok (.getfield n, 3)) (h : pR st fun k r => (1000 ≤ k ∧ k < 1019) ∧ X d q n0 cf sf Rt (pc + 3) ce se ls (.ref (k + 100) :: r) σ) : X d q n0 cf sf Rt pc ce se ls st σ := by
  obtain ⟨k, r, rfl, hk, h9⟩ := pR_sp h
  obtain ⟨i, rfl⟩ : ∃ i : Nat, k = 1000 + i := ⟨k - 1000, by omega⟩
  intro base ρ D aC p l e s m args below meth c H locs lsJ hfl C hW hS hL hZ
  have hi := (C.2.2.2.2.2.2.2.2.2.2.2.1.1 i (by omega)).2.2.1
  have hz := h9 base ρ D aC p l e s m args below meth c H locs lsJ hfl C hW hS hL hZ
  rw [show 1000 + i + 100 = 1100 + i by omega] at hz
  exact vk_getf C.1 C.2.1 hi hS C.2.2.2.2.1 (C.2.2.2.2.2.2.2.1 _ w) (fun _ z => z) hd hz
theorem x_scod {n : Nat} (w : .fieldLink q.1.cls n "java/lang/String" "coder" "B" ∈ WT) (hd : decode q.2.1 pc = .ok (.getfield n, 3)) (h : pR st fun k r => (1000 ≤ k ∧ k < 1019) ∧ X d q n0 cf sf Rt (pc + 3) ce se ls (.int 0 :: r) σ) : X d q n0 cf sf Rt pc ce se ls st σ := by
  obtain ⟨k, r, rfl, hk, h9⟩ := pR_sp h
  obtain ⟨i, rfl⟩ : ∃ i : Nat, k = 1000 + i := ⟨k - 1000, by omega⟩
  intro base ρ D aC p l e s m args below meth c H locs lsJ hfl C hW hS hL hZ
  have hi := (C.2.2.2.2.2.2.2.2.2.2.2.1.1 i (by omega)).2.1
  exact vk_getf C.1 C.2.1 hi hS C.2.2.2.2.1 (C.2.2.2.2.2.2.2.1 _ w) (fun _ z => z) hd (h9 base ρ D aC p l e s m args below meth c H locs lsJ hfl C hW hS hL hZ)
theorem x_stlen (hd : decode q.2.1 pc = .ok (.arraylength, 1)) (h : pR st fun k r => (1100 ≤ k ∧ k < 1119) ∧ X d q n0 cf sf Rt (pc + 1) ce se ls (.int (Int32.ofNat (slen.getD (k - 1100) 0)) :: r) σ) : X d q n0 cf sf Rt pc ce se ls st σ := by
  obtain ⟨k, r, rfl, hk, h9⟩ := pR_sp h
  obtain ⟨i, rfl⟩ : ∃ i : Nat, k = 1100 + i := ⟨k - 1100, by omega⟩
  rw [Nat.add_sub_cancel_left] at h9
  intro base ρ D aC p l e s m args below meth c H locs lsJ hfl C hW hS hL hZ
  have hi := (C.2.2.2.2.2.2.2.2.2.2.2.1.1 i (by omega)).2.2.2
  exact va_tlen C.1 C.2.1 hi hS rfl hd (h9 base ρ D aC p l e s m args below meth c H locs lsJ hfl C hW hS hL hZ)
theorem x_stbyte (hd : decode q.2.1 pc = .ok (.baload, 1)) (h : pI st fun i r => pR r fun k r => ((1100 ≤ k ∧ k < 1119) ∧ vp_in i (slen.getD (k - 1100) 0)) ∧ X d q n0 cf sf Rt (pc + 1) ce se ls (.int ((sbyt.getD (k - 1100) []).getD i.toNatClampNeg 0) :: r) σ) : X d q n0 cf sf Rt pc ce se ls st σ := by
  obtain ⟨j, r, rfl, h1⟩ := pI_sp h
  obtain ⟨k, r, rfl, ⟨hk, hj⟩, h9⟩ := pR_sp h1
  obtain ⟨i, rfl⟩ : ∃ i : Nat, k = 1100 + i := ⟨k - 1100, by omega⟩
  rw [Nat.add_sub_cancel_left] at h9 hj
  intro base ρ D aC p l e s m args below meth c H locs lsJ hfl C hW hS hL hZ
  have hi := (C.2.2.2.2.2.2.2.2.2.2.2.1.1 i (by omega)).2.2.2
  exact va_tb C.1 C.2.1 hi hS hj rfl hd (h9 base ρ D aC p l e s m args below meth c H locs lsJ hfl C hW hS hL hZ)
theorem x_gets {n i : Nat} {x : String × String × String × Int32} (hx : stT[i]? = some x) (w : .fieldLink q.1.cls n x.1 x.2.1 x.2.2.1 ∈ WT) (hd : decode q.2.1 pc = .ok (.getstatic n, 3)) (h : X d q n0 cf sf Rt (pc + 3) ce se ls (.int x.2.2.2 :: st) σ) : X d q n0 cf sf Rt pc ce se ls st σ := by
  intro base ρ D aC p l e s m args below meth c H locs lsJ hfl C hW hS hL hZ
  have hi := C.2.2.2.2.2.2.2.2.2.2.2.2.2.1 x (List.mem_of_getElem? hx)
  exact va_gets C.1 C.2.1 hi hS C.2.2.2.2.1 (C.2.2.2.2.2.2.2.1 _ w) (fun _ z => z) hd (h base ρ D aC p l e s m args below meth c H locs lsJ hfl C hW hS hL hZ)
theorem x_getsF {n : Nat} (w : .fieldLink q.1.cls n "jdk/internal/util/Preconditions" "SIOOBE_FORMATTER" "Ljava/util/function/BiFunction;" ∈ WT) (hd : decode q.2.1 pc = .ok (.getstatic n, 3)) (h1 : X d q n0 cf sf Rt (pc + 3) ce se ls (.null :: st) σ) (h2 : X d q n0 cf sf Rt (pc + 3) ce se ls (.ref 1999 :: st) σ) : X d q n0 cf sf Rt pc ce se ls st σ := by
  intro base ρ D aC p l e s m args below meth c H locs lsJ hfl C hW hS hL hZ
  rcases C.2.2.2.2.2.2.2.2.2.2.2.2.2.2.2.2.1 with hi | hi
  · exact va_gets C.1 C.2.1 hi hS C.2.2.2.2.1 (C.2.2.2.2.2.2.2.1 _ w) (fun _ z => z) hd (h1 base ρ D aC p l e s m args below meth c H locs lsJ hfl C hW hS hL hZ)
  · exact va_gets C.1 C.2.1 hi hS C.2.2.2.2.1 (C.2.2.2.2.2.2.2.1 _ w) (fun _ z => z) hd (h2 base ρ D aC p l e s m args below meth c H locs lsJ hfl C hW hS hL hZ)
theorem x_i2c (hd : decode q.2.1 pc = .ok (.i2c, 1)) (h : pI st fun x r => X d q n0 cf sf Rt (pc + 1) ce se ls (.int (x.toUInt32 % 65536).toInt32 :: r) σ) : X d q n0 cf sf Rt pc ce se ls st σ := by
  obtain ⟨x, r, rfl, h9⟩ := pI_sp h
  intro base ρ D aC p l e s m args below meth c H locs lsJ hfl C hW hS hL hZ
  exact lv_i2c C.1 C.2.1 hd rfl (h9 base ρ D aC p l e s m args below meth c H locs lsJ hfl C hW hS hL hZ)
theorem x_nreturn {ty : FieldType} (hr : q.2.2.2 = some ty) (hd : decode q.2.1 pc = .ok (.ireturn, 1)) (h : pI st fun x r => (r = [] ∧ ce = cf ∧ se = sf ∧ narrow ty (.int x) = .int x) ∧ Rt (some (.int x)) σ) : X d q n0 cf sf Rt pc ce se ls st σ := by
  obtain ⟨x, r, rfl, ⟨rfl, rfl, rfl, hx⟩, h9⟩ := pI_sp h
  intro base ρ D aC p l e s m args below meth c H locs lsJ hfl C hW hS hL hZ
  exact W.zret C.1 C.2.1 (C.2.2.2.1.trans hr) hx (fun t ht _ => ⟨⟨some (.int x), σ, rfl, h9, by rw [ht]; exact hW, hZ.2⟩, hS.F ht⟩) hS.2.2 hd C.2.2.2.2.2.1
def rcvS (as : List Value) : Prop := match as with
  | .ref k :: _ => 1000 ≤ k ∧ k < 1019
  | _ => False
theorem rcvS_sp {as : List Value} (h : rcvS as) : ∃ (k : Nat) (as' : List Value), as = .ref k :: as' ∧ 1000 ≤ k ∧ k < 1019 := by
  unfold rcvS at h
  split at h
  · exact ⟨_, _, rfl, h.1, h.2⟩
  · exact h.elim
theorem x_invVS {n na : Nat} {q' : MI} (hcl : q'.1.cls = "java/lang/String") (w1 : .methodLink q.1.cls n q'.1 ∈ WT) (w2 : .instanceMethod q'.1 ∈ WT) (w3 : .selects "java/lang/String" q'.1 q'.1 ∈ WT) (w4 : .initialized "java/lang/String" ∈ WT) (w5 : .code q'.1 q'.2.1 q'.2.2.1 q'.2.2.2 ∈ WT)
    (hds : q'.1.cls ≠ "java/lang/invoke/MethodHandle" ∧ q'.1.cls ≠ "java/lang/invoke/VarHandle" ∧ (parseMethodDescriptor q'.1.desc).map (fun d => d.parameters.length) = some na) (hml : q'.2.2.1 ≤ 21) (hd : decode q.2.1 pc = .ok (.invokevirtual n, 3))
    (h : 0 < d ∧ cl st (na + 1) fun as r => (rcvS as ∧ cats r ≤ 8 ∧ ce ≤ cf ∧ se ≤ sf) ∧ Con (d - 1) q' 0 0 as σ (fun v σ' => X d q n0 cf sf Rt (pc + 3) ce se ls (v.toList ++ r) σ')) : X d q n0 cf sf Rt pc ce se ls st σ := by
  obtain ⟨hd0, h⟩ := h
  obtain ⟨as, r, rfl, hln, ⟨hrc, hct, hm1, hm2⟩, h9⟩ := cl_sp h
  obtain ⟨k, as', rfl, hrc⟩ := rcvS_sp hrc
  obtain ⟨i, rfl⟩ : ∃ i : Nat, k = 1000 + i := ⟨k - 1000, by omega⟩
  intro base ρ D aC p l e s m args below meth c H locs lsJ hfl C9 hW hS hL hZ
  intro T hT X9
  have hts := C9.2.2.2.2.2.2.2.1
  have hK := C9.2.2.2.2.2.2.2.2.1
  have hG : GoodIn WT (wsV q.1.cls n "java/lang/String" q'.1 (.code q'.1 q'.2.1 q'.2.2.1 q'.2.2.2 :: WT)) := by
    intro w hw
    refine WT_good w ?_
    unfold wsV at hw
    simp only [List.cons_append, List.nil_append, List.mem_cons] at hw
    rcases hw with rfl | rfl | rfl | rfl | rfl | hw
    · exact w1
    · exact w2
    · exact w3
    · exact w4
    · exact w5
    · exact hw
  refine x_after (σ := σ) (va_runV (As := as'.map (lf ρ)) (rest := r.map (lf ρ)) (b := ρ (1000 + i)) ⟨C9.1, C9.2.1, C9.2.2.1, C9.2.2.2.2.1, hts⟩ (h9 base ρ D aC l hfl) (cwV na hts hG rfl rfl rfl ⟨hcl, hds⟩ ⟨by show d - 1 + 1 ≤ d; omega, by show 8 + (q'.2.2.1 + 11) + 40 * (d - 1) ≤ 40 * d; omega⟩) ⟨Pf_blind, vk_recv (i := i) C9.2.2.2.2.2.2.2.2.2.2.2.1 (by omega) hS, fun U hU hWm => ⟨rfl, by rw [hU]; exact hW, fun z => absurd z (Nat.lt_irrefl 0), va_K.moved hWm.alike hK, Ex_moved C9.2.2.2.2.2.2.2.2.2 hS hU hWm⟩⟩ rfl (by rw [List.length_map]; simp at hln; exact hln) hL.1 (by simp [lf]) (lv_room (by rw [cats_lf]; exact hct)) hd ⟨hm1, hm2⟩) hS (fun v σ' H1 locs1 hv hW1 hn1 hS1 => ?_) T hT X9
  rw [← toL_map]
  exact hv base ρ D aC p l e s m args below meth c H1 locs1 lsJ hfl C9 hW1 hS1 hL ⟨hZ.1, by have := hZ.2; omega⟩
end XSTR
