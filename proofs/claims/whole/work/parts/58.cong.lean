/-! rows alike: pays and runs alike -/
def RQ (σ1 σ : St) : Prop := gI σ1 91 = gI σ 91 ∧ gI σ1 94 = gI σ 94 ∧ gI σ1 95 = gI σ 95 ∧ gI σ1 100 = gI σ 100 ∧ (∀ j, 6 ≤ j → gI σ1 101 j = 0 ∧ gI σ1 102 j = 0) ∧ ∀ j, 6 ≤ j → gI σ 101 j = 0 ∧ gI σ 102 j = 0
section CONG
variable {σ σ1 τ σ2 : St} {t p o n np nt no k K i d b : Nat} {net wk L r w : Int32} {B : Int} {Rt : Option Value → St → Prop}
theorem rRest_cg (h : RQ σ1 σ) : rRest σ1 t o = rRest σ t o := by unfold rRest; rw [h.1, h.2.1]
theorem rLive_cg (h : RQ σ1 σ) : rLive σ1 t o = rLive σ t o := by unfold rLive; rw [rRest_cg h, h.2.2.2.1]
theorem rAt_cg (h : RQ σ1 σ) : rAt σ1 o w = rAt σ o w := by unfold rAt; rw [h.1]
theorem rMem_cg (h : RQ σ1 σ) : rMem σ1 t p r = rMem σ t p r := by funext o; unfold rMem; rw [rLive_cg h, rAt_cg h, h.1]
theorem rIn_cg (h : RQ σ1 σ) : rIn σ1 t p o = rIn σ t p o := by unfold rIn; rw [rLive_cg h, rAt_cg h]
theorem rFloor_cg (h : RQ σ1 σ) : rFloor σ1 p net = rFloor σ p net := by unfold rFloor; rw [h.1]
theorem rOwn_cg (h : RQ σ1 σ) : (fun o => rOwn σ1 o p net) = fun o => rOwn σ o p net := by funext o; unfold rOwn; rw [rFloor_cg h, h.1]
theorem rTab_cg (h : gI σ1 91 = gI σ 91) {m : Nat} : ∀ i, rTab σ1 t m net w i = rTab σ t m net w i
  | 0 => rfl
  | i + 1 => by
    have e : ∀ j, rFrom σ1 t j w = rFrom σ t j w := fun j => by unfold rFrom; rw [h]
    rw [rTab, rTab, rTab_cg h i, e, e, h]
theorem rWant_cg (h : RQ σ1 σ) : (fun o => rWant σ1 t o p net L) = fun o => rWant σ t o p net L := by
  funext o
  unfold rWant rTl
  rw [rRest_cg h, rFloor_cg h, h.1, h.2.2.1, rTab_cg h.1]
theorem rkF_cg (h : RQ σ1 σ) {x : (Nat → Int32) × (Nat → Int32) × Int32} : ∀ i, rkF σ1 t p net k K n i x = rkF σ t p net k K n i x
  | 0 => rfl
  | i + 1 => by
    rw [rkF, rkF, rkF_cg h i]
    unfold rkS
    rw [rMem_cg h, rWant_cg h, rOwn_cg h, h.1]
theorem rPay_cg (h : RQ σ1 σ) : rPay σ1 t p net k K n i = rPay σ t p net k K n i := by
  unfold rPay
  rw [rkF_cg h]
  have z : ∀ g : Nat → Int32, (∀ j, 6 ≤ j → g j = 0) → zrF g 6 = fun _ => 0 := fun g hg => funext fun j => by
    rw [zrF_at]
    split
    · rfl
    · exact hg j (by omega)
  rw [z (gI σ1 101) (fun j hj => (h.2.2.2.2.1 j hj).1), z (gI σ1 102) (fun j hj => (h.2.2.2.2.1 j hj).2), z (gI σ 101) (fun j hj => (h.2.2.2.2.2 j hj).1), z (gI σ 102) (fun j hj => (h.2.2.2.2.2 j hj).2)]
theorem wkF_cg (h : RQ σ1 σ) : ∀ n, wkF σ1 t n = wkF σ t n
  | 0 => h.2.2.1
  | n + 1 => by rw [wkF, wkF, wkF_cg h n, rLive_cg h, rRest_cg h, h.1, h.2.2.1]
theorem wkS_cg (h : RQ σ1 σ) : RQ (wkS σ1 t n) (wkS σ t n) := ⟨h.1, h.2.1, wkF_cg h n, h.2.2.2.1, h.2.2.2.2.1, h.2.2.2.2.2⟩
theorem pyS_cg (h : RQ σ1 σ) (hn : n ≤ 6) : RQ (pyS σ1 t p net n) (pyS σ t p net n) := by
  refine ⟨h.1, ?_, ?_, h.2.2.2.1, fun j hj => rPay_hi hn h.2.2.2.2.1 9 j hj, fun j hj => rPay_hi hn h.2.2.2.2.2 9 j hj⟩
  · show tkF σ1 t n _ = tkF σ t n _
    unfold tkF
    rw [rPay_cg h, h.2.1]
  · show owF σ1 t p n _ _ = owF σ t p n _ _
    unfold owF
    rw [rPay_cg h, h.2.2.1, h.1]
    refine congrFun (congrArg (uF (gI σ 95) t) (funext fun o => ?_)) n
    rw [rIn_cg h]
theorem rnS_cg (h : RQ σ1 σ) (hn : n ≤ 6) : ∀ p, RQ (rnS σ1 wk net n p) (rnS σ wk net n p)
  | 0 => wkS_cg h
  | p + 1 => by
    rw [rnS, rnS, h.1]
    split
    · exact pyS_cg (rnS_cg h hn p) hn
    · exact rnS_cg h hn p
theorem runS_cg (h : RQ (runS σ1 net np n 0) (runS σ net np n 0)) (hn : n ≤ 6) : ∀ k, RQ (runS σ1 net np n k) (runS σ net np n k)
  | 0 => h
  | k + 1 => by
    rw [runS, runS]
    exact rnS_cg (runS_cg h hn k) hn np
theorem anyO_cg (h : RQ σ1 σ) : ∀ n, anyO σ1 n = anyO σ n
  | 0 => rfl
  | n + 1 => by rw [anyO, anyO, anyO_cg h n, rLive_cg h, h.2.2.1]
/-- the rows that a run of the reference writes -/
def S12 (a j : Nat) : Prop := (a = 89 ∧ (j = 0 ∨ j = 27)) ∨ ((a = 94 ∨ a = 95) ∧ 6 ≤ j ∧ j < 12) ∨ a = 101 ∨ a = 102
theorem S12_SR {a j : Nat} (h : S12 a j) : SR a j := by unfold S12 at h; unfold SR; omega
theorem RQ_0 (hfr : Fr S12 σ σ1) (h0 : ∀ j, 6 ≤ j → gI σ1 101 j = 0 ∧ gI σ1 102 j = 0) (h0' : ∀ j, 6 ≤ j → gI σ 101 j = 0 ∧ gI σ 102 j = 0) : RQ (runS σ1 net np n 0) (runS σ net np n 0) := by
  have hu : ∀ a, (a = 94 ∨ a = 95) → uF (gI σ1 a) 6 (gI σ1 a) 6 = uF (gI σ a) 6 (gI σ a) 6 := by
    intro a ha
    funext j
    by_cases hj : 6 ≤ j ∧ j < 12
    · obtain ⟨o, rfl⟩ : ∃ o, j = 6 + o := ⟨j - 6, by omega⟩
      rw [uF_in 6 o (by omega), uF_in 6 o (by omega)]
      exact hfr.I (by unfold S12; omega)
    · rw [uF_out 6 (by omega), uF_out 6 (by omega)]
      exact hfr.I (by unfold S12; omega)
  refine ⟨hfr.row (fun _ => by unfold S12; omega), hu 94 (Or.inl rfl), hu 95 (Or.inr rfl), hfr.row (fun _ => by unfold S12; omega), h0, h0'⟩
theorem Fr_w {S : Nat → Nat → Prop} {A Bb : Nat → Int32} (h : Fr S σ τ) (hA : ∀ j, ¬ S 95 j → A j = gI σ 95 j) (hB : ∀ j, ¬ S 94 j → Bb j = gI σ 94 j) : Fr S σ (wr2 τ A Bb) := by
  refine ⟨h.1, h.2.1, h.2.2.1, fun a j z => ?_⟩
  show (if a = 95 then A j else if a = 94 then Bb j else gI τ a j) = gI σ a j
  by_cases h1 : a = 95
  · subst h1; rw [if_pos rfl]; exact hA j z
  · rw [if_neg h1]
    by_cases h2 : a = 94
    · subst h2; rw [if_pos rfl]; exact hB j z
    · rw [if_neg h2]; exact h.2.2.2 a j z
theorem Fr_g {S : Nat → Nat → Prop} {W G : Nat → Int32} (h : Fr S σ τ) (h1 : ∀ j, S 101 j) (h2 : ∀ j, S 102 j) (h3 : S 89 27) : Fr S σ (wrG (wrW τ W) G L) := by
  refine ⟨h.1, h.2.1, h.2.2.1, fun a j z => ?_⟩
  show (if a = 102 then G j else if a = 89 ∧ j = 27 then L else if a = 101 then W j else gI τ a j) = gI σ a j
  rw [if_neg (fun (y : a = 102) => z (by rw [y]; exact h2 j)), if_neg (fun (y : a = 89 ∧ j = 27) => z (by rw [y.1, y.2]; exact h3)), if_neg (fun (y : a = 101) => z (by rw [y]; exact h1 j))]
  exact h.2.2.2 a j z
theorem pyS_Fr (hn : n ≤ 6) (h : Fr S12 σ τ) : Fr S12 σ (pyS τ 6 p net n) := by
  refine Fr_w (Fr_g h (fun j => by unfold S12; omega) (fun j => by unfold S12; omega) (by unfold S12; omega)) (fun j hj => ?_) (fun j hj => ?_)
  · unfold owF
    rw [uF_out n (by unfold S12 at hj; omega)]
    exact h.I hj
  · unfold tkF
    rw [uF_out n (by unfold S12 at hj; omega)]
    exact h.I hj
theorem wkS_Fr (hn : n ≤ 6) (h : Fr S12 σ τ) : Fr S12 σ (wkS τ 6 n) := by
  refine Fr_w h (fun j hj => ?_) (fun j hj => h.I hj)
  rw [wkF_out n (by unfold S12 at hj; omega)]
  exact h.I hj
theorem rnS_Fr (hn : n ≤ 6) (h : Fr S12 σ τ) : ∀ p, Fr S12 σ (rnS τ wk net n p)
  | 0 => wkS_Fr hn h
  | p + 1 => by
    rw [rnS]
    split
    · exact pyS_Fr hn (rnS_Fr hn h p)
    · exact rnS_Fr hn h p
theorem runS_Fr (hn : n ≤ 6) (h : Fr S12 σ τ) : ∀ k, Fr S12 σ (runS τ net np n k)
  | 0 => Fr_w h (fun j hj => by
      rw [uF_out 6 (by unfold S12 at hj; omega)]
      exact h.I hj) (fun j hj => by
      rw [uF_out 6 (by unfold S12 at hj; omega)]
      exact h.I hj)
  | k + 1 => by
    rw [runS]
    exact rnS_Fr hn (runS_Fr hn h k) np
theorem RJ_S12 (hfr : Fr S12 σ σ1) (h0 : ∀ j, 6 ≤ j → gI σ1 101 j = 0 ∧ gI σ1 102 j = 0) (hJ : RJ σ nt np no 0 B) : RJ σ1 nt np no 0 B := by
  have hn := hJ.2.1.1.2.2
  refine ⟨RefAt_R hfr.1 hfr.2.2.1 hJ.1, DskR_row (hfr.row (fun _ => by unfold S12; omega)) hJ.2.1, fun o ho => ?_, h0⟩
  exact OrdB_row (fun k => hfr.I (by unfold S12; omega)) (hfr.I (by unfold S12; omega)) (hfr.I (by unfold S12; omega)) (hfr.I (by unfold S12; omega)) (hJ.2.2.1 o ho)
/-- the reference's shares, from a state that shares have changed -/
def S1 (a j : Nat) : Prop := (a = 89 ∧ (j = 0 ∨ j = 27)) ∨ a = 101 ∨ a = 102
theorem S1_12 {a j : Nat} (h : S1 a j) : S12 a j := by unfold S1 at h; unfold S12; omega
theorem RQ_1 (hfr : Fr S1 σ σ1) (h0 : ∀ j, 6 ≤ j → gI σ1 101 j = 0 ∧ gI σ1 102 j = 0) (h0' : ∀ j, 6 ≤ j → gI σ 101 j = 0 ∧ gI σ 102 j = 0) : RQ σ1 σ := ⟨hfr.row (fun _ => by unfold S1; omega), hfr.row (fun _ => by unfold S1; omega), hfr.row (fun _ => by unfold S1; omega), hfr.row (fun _ => by unfold S1; omega), h0, h0'⟩
theorem hw_of (hJ : RJ σ nt np no t B) : ∀ o, o < no → gI σ 91 (69 + o) = 1 → ∃ a m, a < 3 ∧ m ≤ 6 ∧ gI σ 91 (75 + o) = nI a ∧ gI σ 91 (9 + a) = nI m := by
  intro o' ho' hk
  obtain ⟨_, _, _, hk2, _⟩ := hJ.2.2.1 o' ho'
  rcases hk2 with h2 | h2 | h2
  · exact absurd (h2.1.symm.trans hk) (by decide)
  · obtain ⟨_, a, ha, ha2⟩ := h2
    obtain ⟨m, m1, m2, _⟩ := hJ.2.1.2.2.1 a ha
    have := hJ.2.1.1.1
    exact ⟨a, m, by omega, m2.1, ha2, m1⟩
  · exact absurd (h2.1.symm.trans hk) (by decide)
theorem C_shR (hd : 8 ≤ d) (hJ : RJ σ nt np no 0 B) (hfr : Fr S1 σ σ1) (h0 : ∀ j, 6 ≤ j → gI σ1 101 j = 0 ∧ gI σ1 102 j = 0) (hp : p < np) (hn : 0 ≤ net.toInt ∧ net.toInt ≤ 9999)
    (h : ∀ σ2, Fr S1 σ σ2 → (∀ j, 6 ≤ j → gI σ2 101 j = 0 ∧ gI σ2 102 j = 0) → gI σ2 101 = (rPay σ 0 p net 7 7 no 9).1 → gI σ2 102 = (rPay σ 0 p net 7 7 no 9).2.1 → gI σ2 89 27 = (rPay σ 0 p net 7 7 no 9).2.2 → Rt none σ2) : Con d q_X10_shares_ 0 0 [.ref 89, .int (nI 0), .int (nI p), .int net] σ1 Rt := by
  have hJ1 : RJ σ1 nt np no 0 B := RJ_S12 (hfr.mono (fun a j z => S1_12 z)) h0 hJ
  have hq := RQ_1 hfr h0 hJ.2.2.2
  have hnp := hJ.2.1.1.2.1
  refine C_X10_shares_ (k := 7) (K := 7) (n := no) hd hJ1.1 hJ1.2.1.1.2.2 hJ1.2.1.2.1.2.2 (Or.inl rfl) (by omega) (hw_of hJ1) (pay_ref (RJ_R hJ1 hp hn) 9 (Nat.le_refl 9)).2 ?_
  rw [rPay_cg hq]
  refine h _ (Fr_g hfr (fun j => by unfold S1; omega) (fun j => by unfold S1; omega) (by unfold S1; omega)) (fun j hj => ?_) rfl rfl rfl
  exact rPay_hi hJ.2.1.1.2.2 hJ.2.2.2 9 j hj
/-- a run of the class against a reference's state -/
theorem triT_begin (hJ : RJ τ nt np no 0 B) (hE : OrdEq σ τ (b + 16) 0 no) (hb : b = 45 ∨ b = 67) (hZ : ∀ j, 6 ≤ j → gI σ 20 j = 0 ∧ gI σ 21 j = 0) (hfr : Fr (fun a _ => 25 ≤ a ∧ a ≤ 30) σ σ1) (hv : ∀ o, o < no → ∀ j, j < 10 → gI σ1 (25 + o) j = gI σ (b + 16 + o) j) : Ran σ σ1 no (runS τ net np no 0) := by
  have hn := hJ.2.1.1.2.2
  refine ⟨hfr.mono (fun a j z => by omega), fun o ho => ?_, fun j hj => ?_⟩
  · obtain ⟨e1, e6, e7, e8⟩ := hE o ho
    have eT : gI (runS τ net np no 0) 94 (6 + o) = gI τ 94 o := uF_in 6 o (by omega)
    have eO : gI (runS τ net np no 0) 95 (6 + o) = gI τ 95 o := uF_in 6 o (by omega)
    rw [Nat.zero_add] at e7 e8
    refine ⟨fun j hj => ?_, ?_, ?_, ?_⟩
    · rw [hv o ho j (by omega)]; exact e1 j hj
    · rw [hv o ho 6 (by omega)]; exact e6
    · rw [hv o ho 7 (by omega), eT]; exact e7
    · rw [hv o ho 8 (by omega), eO]; exact e8
  · rw [hfr.row (a := 20) (fun _ => by omega), hfr.row (a := 21) (fun _ => by omega)]
    exact hZ j hj
theorem C_X8_beginT (hd : 1 ≤ d) (hT : TriAt σ) (hD : DeskAt σ b) (hJ : RJ τ nt np no 0 B) (hC : DskC σ τ b nt np no) (hE : OrdEq σ τ (b + 16) 0 no) (hZ : ∀ j, 6 ≤ j → gI σ 20 j = 0 ∧ gI σ 21 j = 0) (h : ∀ σ', Ran σ σ' no (runS τ net np no 0) → Rt none σ') : Con d q_X8_begin 0 0 [.ref 16, .ref b] σ Rt := by
  refine C_X8_begin hd hT hD hJ.2.1.1.2.2 hC.1.2.2 (fun o ho => ?_) (fun σ' hfr hv => h σ' (triT_begin hJ hE hD.2.1 hZ hfr hv))
  rw [(hE o ho).2.1]
  exact (hJ.2.2.1 o ho).2.2.2.2.1
theorem C_X8_weekT (hd : 6 ≤ d) (hT : TriAt σ) (hD : DeskAt σ b) (hJ : RJ τ nt np no 0 B) (hB : B ≤ 1000000000) (hC : DskC σ τ b nt np no) (hnet : 0 ≤ net.toInt ∧ net.toInt ≤ 9999) (hk : k < 200) (hr : Ran σ σ1 no (runS τ net np no k)) (h : ∀ σ', Ran σ σ' no (runS τ net np no (k + 1)) → Rt none σ') : Con d q_X8_passWeek 0 0 [.ref 16, .ref b, .int (nI (k + 1)), .int net] σ1 Rt := by
  have hJ1 := runS_J hJ hB hnet k (by omega)
  have h91 : gI (runS τ net np no k) 91 = gI τ 91 := (runS_R k).2.2.2
  have hC1 : DskC σ1 (runS τ net np no k) b nt np no := DskC_t h91 (DskC_Fr (fun a j z => by omega) (hr.1.row (fun _ => by omega)) hr.1 hD.2.1 ⟨hJ.2.1.1.1, hJ.2.1.1.2.1⟩ hC)
  exact C_X8_passWeek hd (TriAt_Fr hr.1 hT) (DeskAt_Fr hr.1 hD) hJ1 (by omega) hC1 hr.2.1 hr.2.2 hnet (fun σ' hf hE' hZ' => h σ' ⟨hr.1.trans hf, hE', hZ'⟩)
set_option maxRecDepth 10000 in
theorem C_X8_runT (hd : 7 ≤ d) (hT : TriAt σ) (hD : DeskAt σ b) (hJ : RJ τ nt np no 0 B) (hB : B ≤ 1000000000) (hC : DskC σ τ b nt np no) (hE : OrdEq σ τ (b + 16) 0 no) (hZ : ∀ j, 6 ≤ j → gI σ 20 j = 0 ∧ gI σ 21 j = 0) (hnet : 0 ≤ net.toInt ∧ net.toInt ≤ 9999) (hk : k ≤ 200) (h : ∀ σ', Ran σ σ' no (runS τ net np no k) → Rt none σ') : Con d q_X8_run 0 0 [.ref 16, .ref b, .int (nI k), .int net] σ Rt := by
  have hN := hT.1
  have h16 : 16 < gN σ := by omega
  have hd0 : 0 < d := by omega
  refine Con_of_X (ls := [.ref 16, .ref b, .int (nI k), .int net, .null]) rfl (Nat.le_of_ble_eq_true rfl) rfl ?_
  refine X_wp [8] ck_X8_run 18 ?_
  simp (maxSteps := 2000000) (decide := true) only [wp_s e_X8_run_0, wp_s e_X8_run_1, wp_s e_X8_run_2, wp_s e_X8_run_5, wp_s e_X8_run_6, wp_s e_X8_run_8, wp_s e_X8_run_10, wp_s e_X8_run_11, wp_s e_X8_run_14, wp_s e_X8_run_15, wp_s e_X8_run_16, wp_s e_X8_run_18, wp_s e_X8_run_19, wp_s e_X8_run_22, wp_s e_X8_run_25, wp_s e_X8_run_28, ↓reduceIte, st_iadd, st_isub, st_imul, st_iand, st_ior, st_ishl, st_ishr, st_idiv, st_irem, st_ladd, st_lsub, st_lmul, st_lor, st_land, st_ldiv, st_lshl, st_lcmp, st_i2l, st_i2b, st_l2i, st_i2c, st_iconst, st_bipush, st_sipush, st_lconst, st_ldc2_w, st_ldc_w, st_ldcI, st_ldcS, st_iload, st_iload_n, st_lload, st_lload_n, st_aload, st_aload_n, st_istore, st_istore_n, st_lstore, st_lstore_n, st_astore, st_astore_n, st_iinc, st_dup, st_pop, st_dup2, st_ifCond, st_if_icmp, st_goto, st_getI, st_getL, st_getR, st_putI, st_putL, st_putR, st_putZ, st_sval, st_scod, st_baload, st_baloadS, st_alen, st_alenS, st_gets1, st_getsF, st_iaload, st_laload, st_aaload, st_iastore, st_lastore, st_bastoreB, st_bastoreZ, st_aastore, st_iret, st_zret, st_cret, st_bret, st_return_, st_areturn, st_invV, st_invVS, st_invS, st_invI, st_minI, st_maxI, st_obj, st_new, st_newarray, st_anewarray, st_multianewarray, st_table, st_lookup, pI_c, pL_c, pR_c, p1_i, p1_r, p1_n, iI_0, iI_s, iL_0, iL_s, iR_0, iR_s, rfV_s, kc_c, kl_c, cats_0, cats_i, cats_l, cats_r, rcv_c, rcvS_c, isRefA_c, cl_0, cl_1, cl_2, cl_3, cl_4, cl_5, cl_6, cl_7, set1_0, set1_1i, set1_1r, set1_1n, set1_s, set2_s, set2_1i, set2_1r, set2_1n, toL_s, toL_n, cnd, and_self, true_and, and_true, true_or, or_true, List.contains_nil, List.contains_cons, Bool.or_false, beq_iff_eq, Nat.reduceBEq, Nat.reduceEqDiff, Nat.reduceAdd, Nat.reduceLeDiff, Nat.reduceSub, Bool.false_eq_true, if_false, if_true, Nat.zero_le, Nat.add_zero, Nat.zero_add, Nat.le_refl, gN_sI, gN_sL, gN_sR, gR_sI, gR_sL, gR_sR, sh_16, h16, hd0, true_implies, false_implies]
  refine C_X8_beginT (net := net) (by omega) hT hD hJ hC hE hZ (fun σ0 hr0 => ?_)
  have qN0 : gN σ0 = gN σ := hr0.1.2.2.1
  simp (maxSteps := 2000000) (decide := true) only [wp_s e_X8_run_0, wp_s e_X8_run_1, wp_s e_X8_run_2, wp_s e_X8_run_5, wp_s e_X8_run_6, wp_s e_X8_run_8, wp_s e_X8_run_10, wp_s e_X8_run_11, wp_s e_X8_run_14, wp_s e_X8_run_15, wp_s e_X8_run_16, wp_s e_X8_run_18, wp_s e_X8_run_19, wp_s e_X8_run_22, wp_s e_X8_run_25, wp_s e_X8_run_28, ↓reduceIte, st_iadd, st_isub, st_imul, st_iand, st_ior, st_ishl, st_ishr, st_idiv, st_irem, st_ladd, st_lsub, st_lmul, st_lor, st_land, st_ldiv, st_lshl, st_lcmp, st_i2l, st_i2b, st_l2i, st_i2c, st_iconst, st_bipush, st_sipush, st_lconst, st_ldc2_w, st_ldc_w, st_ldcI, st_ldcS, st_iload, st_iload_n, st_lload, st_lload_n, st_aload, st_aload_n, st_istore, st_istore_n, st_lstore, st_lstore_n, st_astore, st_astore_n, st_iinc, st_dup, st_pop, st_dup2, st_ifCond, st_if_icmp, st_goto, st_getI, st_getL, st_getR, st_putI, st_putL, st_putR, st_putZ, st_sval, st_scod, st_baload, st_baloadS, st_alen, st_alenS, st_gets1, st_getsF, st_iaload, st_laload, st_aaload, st_iastore, st_lastore, st_bastoreB, st_bastoreZ, st_aastore, st_iret, st_zret, st_cret, st_bret, st_return_, st_areturn, st_invV, st_invVS, st_invS, st_invI, st_minI, st_maxI, st_obj, st_new, st_newarray, st_anewarray, st_multianewarray, st_table, st_lookup, pI_c, pL_c, pR_c, p1_i, p1_r, p1_n, iI_0, iI_s, iL_0, iL_s, iR_0, iR_s, rfV_s, kc_c, kl_c, cats_0, cats_i, cats_l, cats_r, rcv_c, rcvS_c, isRefA_c, cl_0, cl_1, cl_2, cl_3, cl_4, cl_5, cl_6, cl_7, set1_0, set1_1i, set1_1r, set1_1n, set1_s, set2_s, set2_1i, set2_1r, set2_1n, toL_s, toL_n, cnd, and_self, true_and, and_true, true_or, or_true, List.contains_nil, List.contains_cons, Bool.or_false, beq_iff_eq, Nat.reduceBEq, Nat.reduceEqDiff, Nat.reduceAdd, Nat.reduceLeDiff, Nat.reduceSub, Bool.false_eq_true, if_false, if_true, Nat.zero_le, Nat.add_zero, Nat.zero_add, Nat.le_refl, gN_sI, gN_sL, gN_sR, gR_sI, gR_sL, gR_sR, sh_16, h16, hd0, true_implies, false_implies, qN0]
  suffices hh : ∀ (j o : Nat), o + j = k → ∀ σ1 : St, Ran σ σ1 no (runS τ net np no o) → X d q_X8_run (gN σ) 0 0 Rt 8 0 0 [.ref 16, .ref b, .int (nI k), .int net, .int (nI (o + 1))] [] σ1 from hh k 0 (by omega) σ0 hr0
  intro j
  induction j with
  | zero =>
    intro o ho σ1 hr
    obtain rfl : o = k := by omega
    have hgt : nI o < nI (o + 1) := nI_lt (by omega) (by omega)
    refine X_wp [14] ck_X8_run 18 ?_
    simp (maxSteps := 2000000) (decide := true) only [wp_s e_X8_run_0, wp_s e_X8_run_1, wp_s e_X8_run_2, wp_s e_X8_run_5, wp_s e_X8_run_6, wp_s e_X8_run_8, wp_s e_X8_run_10, wp_s e_X8_run_11, wp_s e_X8_run_14, wp_s e_X8_run_15, wp_s e_X8_run_16, wp_s e_X8_run_18, wp_s e_X8_run_19, wp_s e_X8_run_22, wp_s e_X8_run_25, wp_s e_X8_run_28, ↓reduceIte, st_iadd, st_isub, st_imul, st_iand, st_ior, st_ishl, st_ishr, st_idiv, st_irem, st_ladd, st_lsub, st_lmul, st_lor, st_land, st_ldiv, st_lshl, st_lcmp, st_i2l, st_i2b, st_l2i, st_i2c, st_iconst, st_bipush, st_sipush, st_lconst, st_ldc2_w, st_ldc_w, st_ldcI, st_ldcS, st_iload, st_iload_n, st_lload, st_lload_n, st_aload, st_aload_n, st_istore, st_istore_n, st_lstore, st_lstore_n, st_astore, st_astore_n, st_iinc, st_dup, st_pop, st_dup2, st_ifCond, st_if_icmp, st_goto, st_getI, st_getL, st_getR, st_putI, st_putL, st_putR, st_putZ, st_sval, st_scod, st_baload, st_baloadS, st_alen, st_alenS, st_gets1, st_getsF, st_iaload, st_laload, st_aaload, st_iastore, st_lastore, st_bastoreB, st_bastoreZ, st_aastore, st_iret, st_zret, st_cret, st_bret, st_return_, st_areturn, st_invV, st_invVS, st_invS, st_invI, st_minI, st_maxI, st_obj, st_new, st_newarray, st_anewarray, st_multianewarray, st_table, st_lookup, pI_c, pL_c, pR_c, p1_i, p1_r, p1_n, iI_0, iI_s, iL_0, iL_s, iR_0, iR_s, rfV_s, kc_c, kl_c, cats_0, cats_i, cats_l, cats_r, rcv_c, rcvS_c, isRefA_c, cl_0, cl_1, cl_2, cl_3, cl_4, cl_5, cl_6, cl_7, set1_0, set1_1i, set1_1r, set1_1n, set1_s, set2_s, set2_1i, set2_1r, set2_1n, toL_s, toL_n, cnd, and_self, true_and, and_true, true_or, or_true, List.contains_nil, List.contains_cons, Bool.or_false, beq_iff_eq, Nat.reduceBEq, Nat.reduceEqDiff, Nat.reduceAdd, Nat.reduceLeDiff, Nat.reduceSub, Bool.false_eq_true, if_false, if_true, Nat.zero_le, Nat.add_zero, Nat.zero_add, Nat.le_refl, gN_sI, gN_sL, gN_sR, gR_sI, gR_sL, gR_sR, sh_16, h16, hd0, true_implies, false_implies]
    exact ⟨fun _ => h σ1 hr, fun c => absurd hgt c⟩
  | succ j ih =>
    intro o ho σ1 hr
    have hgt : ¬ nI k < nI (o + 1) := by rw [nI_ltI (by omega) (by omega)]; omega
    have qN : gN σ1 = gN σ := hr.1.2.2.1
    refine X_wp [14] ck_X8_run 18 ?_
    simp (maxSteps := 2000000) (decide := true) only [wp_s e_X8_run_0, wp_s e_X8_run_1, wp_s e_X8_run_2, wp_s e_X8_run_5, wp_s e_X8_run_6, wp_s e_X8_run_8, wp_s e_X8_run_10, wp_s e_X8_run_11, wp_s e_X8_run_14, wp_s e_X8_run_15, wp_s e_X8_run_16, wp_s e_X8_run_18, wp_s e_X8_run_19, wp_s e_X8_run_22, wp_s e_X8_run_25, wp_s e_X8_run_28, ↓reduceIte, st_iadd, st_isub, st_imul, st_iand, st_ior, st_ishl, st_ishr, st_idiv, st_irem, st_ladd, st_lsub, st_lmul, st_lor, st_land, st_ldiv, st_lshl, st_lcmp, st_i2l, st_i2b, st_l2i, st_i2c, st_iconst, st_bipush, st_sipush, st_lconst, st_ldc2_w, st_ldc_w, st_ldcI, st_ldcS, st_iload, st_iload_n, st_lload, st_lload_n, st_aload, st_aload_n, st_istore, st_istore_n, st_lstore, st_lstore_n, st_astore, st_astore_n, st_iinc, st_dup, st_pop, st_dup2, st_ifCond, st_if_icmp, st_goto, st_getI, st_getL, st_getR, st_putI, st_putL, st_putR, st_putZ, st_sval, st_scod, st_baload, st_baloadS, st_alen, st_alenS, st_gets1, st_getsF, st_iaload, st_laload, st_aaload, st_iastore, st_lastore, st_bastoreB, st_bastoreZ, st_aastore, st_iret, st_zret, st_cret, st_bret, st_return_, st_areturn, st_invV, st_invVS, st_invS, st_invI, st_minI, st_maxI, st_obj, st_new, st_newarray, st_anewarray, st_multianewarray, st_table, st_lookup, pI_c, pL_c, pR_c, p1_i, p1_r, p1_n, iI_0, iI_s, iL_0, iL_s, iR_0, iR_s, rfV_s, kc_c, kl_c, cats_0, cats_i, cats_l, cats_r, rcv_c, rcvS_c, isRefA_c, cl_0, cl_1, cl_2, cl_3, cl_4, cl_5, cl_6, cl_7, set1_0, set1_1i, set1_1r, set1_1n, set1_s, set2_s, set2_1i, set2_1r, set2_1n, toL_s, toL_n, cnd, and_self, true_and, and_true, true_or, or_true, List.contains_nil, List.contains_cons, Bool.or_false, beq_iff_eq, Nat.reduceBEq, Nat.reduceEqDiff, Nat.reduceAdd, Nat.reduceLeDiff, Nat.reduceSub, Bool.false_eq_true, if_false, if_true, Nat.zero_le, Nat.add_zero, Nat.zero_add, Nat.le_refl, gN_sI, gN_sL, gN_sR, gR_sI, gR_sL, gR_sR, sh_16, h16, hd0, true_implies, false_implies]
    refine ⟨fun c => absurd c hgt, fun _ => ?_⟩
    refine X_wp [8] ck_X8_run 18 ?_
    simp (maxSteps := 2000000) (decide := true) only [wp_s e_X8_run_0, wp_s e_X8_run_1, wp_s e_X8_run_2, wp_s e_X8_run_5, wp_s e_X8_run_6, wp_s e_X8_run_8, wp_s e_X8_run_10, wp_s e_X8_run_11, wp_s e_X8_run_14, wp_s e_X8_run_15, wp_s e_X8_run_16, wp_s e_X8_run_18, wp_s e_X8_run_19, wp_s e_X8_run_22, wp_s e_X8_run_25, wp_s e_X8_run_28, ↓reduceIte, st_iadd, st_isub, st_imul, st_iand, st_ior, st_ishl, st_ishr, st_idiv, st_irem, st_ladd, st_lsub, st_lmul, st_lor, st_land, st_ldiv, st_lshl, st_lcmp, st_i2l, st_i2b, st_l2i, st_i2c, st_iconst, st_bipush, st_sipush, st_lconst, st_ldc2_w, st_ldc_w, st_ldcI, st_ldcS, st_iload, st_iload_n, st_lload, st_lload_n, st_aload, st_aload_n, st_istore, st_istore_n, st_lstore, st_lstore_n, st_astore, st_astore_n, st_iinc, st_dup, st_pop, st_dup2, st_ifCond, st_if_icmp, st_goto, st_getI, st_getL, st_getR, st_putI, st_putL, st_putR, st_putZ, st_sval, st_scod, st_baload, st_baloadS, st_alen, st_alenS, st_gets1, st_getsF, st_iaload, st_laload, st_aaload, st_iastore, st_lastore, st_bastoreB, st_bastoreZ, st_aastore, st_iret, st_zret, st_cret, st_bret, st_return_, st_areturn, st_invV, st_invVS, st_invS, st_invI, st_minI, st_maxI, st_obj, st_new, st_newarray, st_anewarray, st_multianewarray, st_table, st_lookup, pI_c, pL_c, pR_c, p1_i, p1_r, p1_n, iI_0, iI_s, iL_0, iL_s, iR_0, iR_s, rfV_s, kc_c, kl_c, cats_0, cats_i, cats_l, cats_r, rcv_c, rcvS_c, isRefA_c, cl_0, cl_1, cl_2, cl_3, cl_4, cl_5, cl_6, cl_7, set1_0, set1_1i, set1_1r, set1_1n, set1_s, set2_s, set2_1i, set2_1r, set2_1n, toL_s, toL_n, cnd, and_self, true_and, and_true, true_or, or_true, List.contains_nil, List.contains_cons, Bool.or_false, beq_iff_eq, Nat.reduceBEq, Nat.reduceEqDiff, Nat.reduceAdd, Nat.reduceLeDiff, Nat.reduceSub, Bool.false_eq_true, if_false, if_true, Nat.zero_le, Nat.add_zero, Nat.zero_add, Nat.le_refl, gN_sI, gN_sL, gN_sR, gR_sI, gR_sL, gR_sR, sh_16, h16, hd0, true_implies, false_implies, qN]
    refine C_X8_weekT (by omega) hT hD hJ hB hC hnet (by omega) hr (fun σ2 hr2 => ?_)
    have qN2 : gN σ2 = gN σ := hr2.1.2.2.1
    simp (maxSteps := 2000000) (decide := true) only [wp_s e_X8_run_0, wp_s e_X8_run_1, wp_s e_X8_run_2, wp_s e_X8_run_5, wp_s e_X8_run_6, wp_s e_X8_run_8, wp_s e_X8_run_10, wp_s e_X8_run_11, wp_s e_X8_run_14, wp_s e_X8_run_15, wp_s e_X8_run_16, wp_s e_X8_run_18, wp_s e_X8_run_19, wp_s e_X8_run_22, wp_s e_X8_run_25, wp_s e_X8_run_28, ↓reduceIte, st_iadd, st_isub, st_imul, st_iand, st_ior, st_ishl, st_ishr, st_idiv, st_irem, st_ladd, st_lsub, st_lmul, st_lor, st_land, st_ldiv, st_lshl, st_lcmp, st_i2l, st_i2b, st_l2i, st_i2c, st_iconst, st_bipush, st_sipush, st_lconst, st_ldc2_w, st_ldc_w, st_ldcI, st_ldcS, st_iload, st_iload_n, st_lload, st_lload_n, st_aload, st_aload_n, st_istore, st_istore_n, st_lstore, st_lstore_n, st_astore, st_astore_n, st_iinc, st_dup, st_pop, st_dup2, st_ifCond, st_if_icmp, st_goto, st_getI, st_getL, st_getR, st_putI, st_putL, st_putR, st_putZ, st_sval, st_scod, st_baload, st_baloadS, st_alen, st_alenS, st_gets1, st_getsF, st_iaload, st_laload, st_aaload, st_iastore, st_lastore, st_bastoreB, st_bastoreZ, st_aastore, st_iret, st_zret, st_cret, st_bret, st_return_, st_areturn, st_invV, st_invVS, st_invS, st_invI, st_minI, st_maxI, st_obj, st_new, st_newarray, st_anewarray, st_multianewarray, st_table, st_lookup, pI_c, pL_c, pR_c, p1_i, p1_r, p1_n, iI_0, iI_s, iL_0, iL_s, iR_0, iR_s, rfV_s, kc_c, kl_c, cats_0, cats_i, cats_l, cats_r, rcv_c, rcvS_c, isRefA_c, cl_0, cl_1, cl_2, cl_3, cl_4, cl_5, cl_6, cl_7, set1_0, set1_1i, set1_1r, set1_1n, set1_s, set2_s, set2_1i, set2_1r, set2_1n, toL_s, toL_n, cnd, and_self, true_and, and_true, true_or, or_true, List.contains_nil, List.contains_cons, Bool.or_false, beq_iff_eq, Nat.reduceBEq, Nat.reduceEqDiff, Nat.reduceAdd, Nat.reduceLeDiff, Nat.reduceSub, Bool.false_eq_true, if_false, if_true, Nat.zero_le, Nat.add_zero, Nat.zero_add, Nat.le_refl, gN_sI, gN_sL, gN_sR, gR_sI, gR_sL, gR_sR, sh_16, h16, hd0, true_implies, false_implies, qN2, nI_1]
    exact ih (o + 1) (by omega) σ2 hr2
end CONG
