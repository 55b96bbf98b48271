/-! reading behind writing; shapes -/
section BASE
variable {σ : St} {k j a b : Nat} {v : Int32} {vl : Int64} {vr : Option Nat}
theorem gI_sI : gI (sI σ k j v) a b = if a = k ∧ b = j then v else gI σ a b := rfl
theorem gI_sL : gI (sL σ k j vl) = gI σ := rfl
theorem gI_sR : gI (sR σ k j vr) = gI σ := rfl
theorem gL_sL : gL (sL σ k j vl) a b = if a = k ∧ b = j then vl else gL σ a b := rfl
theorem gL_sI : gL (sI σ k j v) = gL σ := rfl
theorem gL_sR : gL (sR σ k j vr) = gL σ := rfl
theorem gR_sR : gR (sR σ k j vr) a b = if a = k ∧ b = j then vr else gR σ a b := rfl
theorem gR_sI : gR (sI σ k j v) = gR σ := rfl
theorem gR_sL : gR (sL σ k j vl) = gR σ := rfl
theorem gN_sI : gN (sI σ k j v) = gN σ := rfl
theorem gN_sL : gN (sL σ k j vl) = gN σ := rfl
theorem gN_sR : gN (sR σ k j vr) = gN σ := rfl
theorem gI_same : gI (sI σ k j v) k j = v := if_pos ⟨rfl, rfl⟩
theorem gL_same : gL (sL σ k j vl) k j = vl := if_pos ⟨rfl, rfl⟩
theorem gI_ne (h : a ≠ k ∨ b ≠ j) : gI (sI σ k j v) a b = gI σ a b := if_neg (fun z => h.elim (fun y => y z.1) (fun y => y z.2))
theorem gL_ne (h : a ≠ k ∨ b ≠ j) : gL (sL σ k j vl) a b = gL σ a b := if_neg (fun z => h.elim (fun y => y z.1) (fun y => y z.2))
end BASE
/-- a truth value as the machine has it -/
def bI (b : Bool) : Int32 := if b then 1 else 0
theorem bI_0 (b : Bool) : (bI b = 0) = (b = false) := by cases b <;> simp [bI]
theorem bI_1 (b : Bool) : (bI b = 1) = (b = true) := by cases b <;> simp [bI]
theorem bI_01 (b : Bool) : (bI b = 0 ∨ bI b = 1) = True := by cases b <;> simp [bI]
theorem sh_0 : sh 0 = (0, 9) := rfl
theorem sh_1 : sh 1 = (0, 6) := rfl
theorem sh_2 : sh 2 = (2, 500) := rfl
theorem sh_3 : sh 3 = (0, 7) := rfl
theorem sh_4 : sh 4 = (9, 3) := rfl
theorem sh_5 : sh 5 = (4, 6) := rfl
theorem sh_6 : sh 6 = (4, 6) := rfl
theorem sh_7 : sh 7 = (4, 6) := rfl
theorem sh_8 : sh 8 = (1, 3) := rfl
theorem sh_9 : sh 9 = (0, 1) := rfl
theorem sh_10 : sh 10 = (3, 6) := rfl
theorem sh_11 : sh 11 = (1, 6) := rfl
theorem sh_12 : sh 12 = (1, 6) := rfl
theorem sh_13 : sh 13 = (1, 6) := rfl
theorem sh_14 : sh 14 = (1, 6) := rfl
theorem sh_15 : sh 15 = (1, 6) := rfl
theorem sh_16 : sh 16 = (0, 8) := rfl
theorem sh_17 : sh 17 = (7, 6) := rfl
theorem sh_18 : sh 18 = (0, 1) := rfl
theorem sh_19 : sh 19 = (3, 6) := rfl
theorem sh_20 : sh 20 = (1, 6) := rfl
theorem sh_21 : sh 21 = (1, 6) := rfl
theorem sh_22 : sh 22 = (1, 6) := rfl
theorem sh_23 : sh 23 = (1, 6) := rfl
theorem sh_24 : sh 24 = (1, 6) := rfl
theorem sh_25 : sh 25 = (0, 3) := rfl
theorem sh_26 : sh 26 = (0, 3) := rfl
theorem sh_27 : sh 27 = (0, 3) := rfl
theorem sh_28 : sh 28 = (0, 3) := rfl
theorem sh_29 : sh 29 = (0, 3) := rfl
theorem sh_30 : sh 30 = (0, 3) := rfl
theorem sh_31 : sh 31 = (0, 2) := rfl
theorem sh_32 : sh 32 = (8, 12) := rfl
theorem sh_33 : sh 33 = (1, 17) := rfl
theorem sh_34 : sh 34 = (1, 17) := rfl
theorem sh_35 : sh 35 = (1, 17) := rfl
theorem sh_36 : sh 36 = (1, 17) := rfl
theorem sh_37 : sh 37 = (1, 17) := rfl
theorem sh_38 : sh 38 = (1, 17) := rfl
theorem sh_39 : sh 39 = (1, 17) := rfl
theorem sh_40 : sh 40 = (1, 17) := rfl
theorem sh_41 : sh 41 = (1, 17) := rfl
theorem sh_42 : sh 42 = (1, 17) := rfl
theorem sh_43 : sh 43 = (1, 17) := rfl
theorem sh_44 : sh 44 = (1, 17) := rfl
theorem sh_45 : sh 45 = (0, 0) := rfl
theorem sh_46 : sh 46 = (5, 3) := rfl
theorem sh_47 : sh 47 = (6, 3) := rfl
theorem sh_48 : sh 48 = (7, 6) := rfl
theorem sh_49 : sh 49 = (0, 5) := rfl
theorem sh_50 : sh 50 = (1, 6) := rfl
theorem sh_51 : sh 51 = (1, 6) := rfl
theorem sh_52 : sh 52 = (0, 5) := rfl
theorem sh_53 : sh 53 = (1, 6) := rfl
theorem sh_54 : sh 54 = (1, 6) := rfl
theorem sh_55 : sh 55 = (0, 5) := rfl
theorem sh_56 : sh 56 = (1, 6) := rfl
theorem sh_57 : sh 57 = (1, 6) := rfl
theorem sh_58 : sh 58 = (0, 4) := rfl
theorem sh_59 : sh 59 = (0, 4) := rfl
theorem sh_60 : sh 60 = (0, 4) := rfl
theorem sh_61 : sh 61 = (0, 3) := rfl
theorem sh_62 : sh 62 = (0, 3) := rfl
theorem sh_63 : sh 63 = (0, 3) := rfl
theorem sh_64 : sh 64 = (0, 3) := rfl
theorem sh_65 : sh 65 = (0, 3) := rfl
theorem sh_66 : sh 66 = (0, 3) := rfl
theorem sh_67 : sh 67 = (0, 0) := rfl
theorem sh_68 : sh 68 = (5, 3) := rfl
theorem sh_69 : sh 69 = (6, 3) := rfl
theorem sh_70 : sh 70 = (7, 6) := rfl
theorem sh_71 : sh 71 = (0, 5) := rfl
theorem sh_72 : sh 72 = (1, 6) := rfl
theorem sh_73 : sh 73 = (1, 6) := rfl
theorem sh_74 : sh 74 = (0, 5) := rfl
theorem sh_75 : sh 75 = (1, 6) := rfl
theorem sh_76 : sh 76 = (1, 6) := rfl
theorem sh_77 : sh 77 = (0, 5) := rfl
theorem sh_78 : sh 78 = (1, 6) := rfl
theorem sh_79 : sh 79 = (1, 6) := rfl
theorem sh_80 : sh 80 = (0, 4) := rfl
theorem sh_81 : sh 81 = (0, 4) := rfl
theorem sh_82 : sh 82 = (0, 4) := rfl
theorem sh_83 : sh 83 = (0, 3) := rfl
theorem sh_84 : sh 84 = (0, 3) := rfl
theorem sh_85 : sh 85 = (0, 3) := rfl
theorem sh_86 : sh 86 = (0, 3) := rfl
theorem sh_87 : sh 87 = (0, 3) := rfl
theorem sh_88 : sh 88 = (0, 3) := rfl
theorem sh_89 : sh 89 = (0, 10) := rfl
theorem sh_90 : sh 90 = (2, 500) := rfl
theorem sh_91 : sh 91 = (1, 100) := rfl
theorem sh_92 : sh 92 = (1, 100) := rfl
theorem sh_93 : sh 93 = (4, 12) := rfl
theorem sh_94 : sh 94 = (1, 12) := rfl
theorem sh_95 : sh 95 = (1, 12) := rfl
theorem sh_96 : sh 96 = (1, 6) := rfl
theorem sh_97 : sh 97 = (1, 3) := rfl
theorem sh_98 : sh 98 = (1, 3) := rfl
theorem sh_99 : sh 99 = (1, 3) := rfl
theorem sh_100 : sh 100 = (3, 6) := rfl
theorem sh_101 : sh 101 = (1, 6) := rfl
theorem sh_102 : sh 102 = (1, 6) := rfl
theorem sh_103 : sh 103 = (1, 60) := rfl
theorem sh_104 : sh 104 = (1, 72) := rfl
theorem sh_105 : sh 105 = (1, 72) := rfl
theorem sh_106 : sh 106 = (4, 1) := rfl
