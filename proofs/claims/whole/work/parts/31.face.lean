/-! the small calls of the class and of the reference -/
theorem inb_nI {j n : Nat} (h : j < n) (hn : n < 2 ^ 31) : inb (nI j) n := vp_in_nI h hn
theorem inb_of {x : Int32} {n : Nat} (h0 : 0 ≤ x) (h1 : x < nI n) (hn : n < 2 ^ 31) : inb x n := by
  rcases pk_ix x hn with h | h | ⟨j, hj, rfl⟩
  · grind
  · grind
  · exact inb_nI hj hn
section FACE
variable (ol : pm_O) (orc : pm_Q) (A I : Nat → Nat → Int32) (L : Nat → Int64) (g : pm_H) (c p t x y z w : Int32)
theorem V_setParent : pm_V ol orc 93 [.ref 1, .int c, .int p] (mk A I L g) = if (1 ≤ c ∧ c < 8) ∧ 0 ≤ p ∧ p < c then some (some (.int 1), mk (sA A 2 c.toNatClampNeg p) I L g) else some (some (.int 0), mk A I L g) := by
  simp only [f93_0, f93_1, f93_2, f93_5, f93_6, f93_8, f93_11, f93_12, f93_15, f93_16, f93_17, f93_20, f93_21, f93_22, f93_23, f93_26, f93_27, f93_28, f93_29, f93_30, v93, pm_Pv_some, pm_Ph_some, pm_B_some, pm_B_none, fd_1_0]
  by_cases h : (1 ≤ c ∧ c < 8) ∧ 0 ≤ p ∧ p < c
  · rw [if_pos h, si_2 _ _ _ _ _ _ (inb_of (by grind) (by show c < 8; grind) (by decide))]
    simp only [f93_0, f93_1, f93_2, f93_5, f93_6, f93_8, f93_11, f93_12, f93_15, f93_16, f93_17, f93_20, f93_21, f93_22, f93_23, f93_26, f93_27, f93_28, f93_29, f93_30, v93, pm_Pv_some, pm_Ph_some, pm_B_some, pm_B_none]
    grind
  · rw [if_neg h]
    grind
theorem V_parent : pm_V ol orc 99 [.ref 0, .int c, .int p] (mk A I L g) = if (1 ≤ c ∧ c < 8) ∧ 0 ≤ p ∧ p < c then some (some (.int 1), mk (sA A 2 c.toNatClampNeg p) I L g) else some (some (.int 0), mk A I L g) := by
  simp only [f99_0, f99_1, f99_4, f99_5, f99_6, f99_9, v99, pm_Pv_some, pm_Ph_some, pm_B_some, pm_B_none, fd_0_0, is_1, V_setParent, if_true, pm_B_ite]
  grind
theorem M_parent : pm_V ol orc 119 [.ref 48, .int c, .int p] (mk A I L g) = if (1 ≤ c ∧ c < 8) ∧ 0 ≤ p ∧ p < c then some (some (.int 1), mk (sA A 49 c.toNatClampNeg p) (sI I 48 0 0) L g) else some (some (.int 0), mk A (sI I 48 0 0) L g) := by
  simp only [f119_0, f119_1, f119_2, f119_5, f119_6, f119_7, f119_10, f119_11, f119_13, f119_16, f119_17, f119_20, f119_21, f119_22, f119_25, f119_26, f119_27, f119_28, f119_31, f119_32, f119_33, f119_34, f119_35, v119, pm_Pv_some, pm_Ph_some, pm_B_some, pm_B_none, fs_48_0, fd_48_1]
  by_cases h : (1 ≤ c ∧ c < 8) ∧ 0 ≤ p ∧ p < c
  · rw [if_pos h, si_49 _ _ _ _ _ _ (inb_of (by grind) (by show c < 8; grind) (by decide))]
    simp only [f119_0, f119_1, f119_2, f119_5, f119_6, f119_7, f119_10, f119_11, f119_13, f119_16, f119_17, f119_20, f119_21, f119_22, f119_25, f119_26, f119_27, f119_28, f119_31, f119_32, f119_33, f119_34, f119_35, v119, pm_Pv_some, pm_Ph_some, pm_B_some, pm_B_none]
    grind
  · rw [if_neg h]
    grind
theorem V_setField : pm_V ol orc 94 [.ref 1, .int c, .int p, .int t] (mk A I L g) = if (0 ≤ c ∧ c < 6) ∧ (0 ≤ p ∧ p < 8) ∧ tKnown t then some (some (.int 1), mk (sA (sA A 3 c.toNatClampNeg p) 4 c.toNatClampNeg t) I L g) else some (some (.int 0), mk A I L g) := by
  simp only [f94_0, f94_1, f94_4, f94_5, f94_7, f94_10, f94_11, f94_14, f94_17, f94_18, f94_21, f94_24, f94_25, f94_26, f94_27, f94_30, f94_31, f94_32, f94_33, f94_34, f94_37, f94_38, f94_39, f94_40, f94_41, v94, pm_Pv_some, pm_Ph_some, pm_B_some, pm_B_none, fd_1_1, fd_1_2, V_isClass, V_isKnown, b1_0]
  by_cases h : (0 ≤ c ∧ c < 6) ∧ (0 ≤ p ∧ p < 8) ∧ tKnown t
  · have hi : inb c 6 := inb_of (by grind) (by show c < 6; grind) (by decide)
    rw [if_pos h, si_3 _ _ _ _ _ _ hi]
    simp only [f94_0, f94_1, f94_4, f94_5, f94_7, f94_10, f94_11, f94_14, f94_17, f94_18, f94_21, f94_24, f94_25, f94_26, f94_27, f94_30, f94_31, f94_32, f94_33, f94_34, f94_37, f94_38, f94_39, f94_40, f94_41, v94, pm_Pv_some, pm_Ph_some, pm_B_some, pm_B_none, fd_1_2]
    rw [si_4 _ _ _ _ _ _ hi]
    simp only [f94_0, f94_1, f94_4, f94_5, f94_7, f94_10, f94_11, f94_14, f94_17, f94_18, f94_21, f94_24, f94_25, f94_26, f94_27, f94_30, f94_31, f94_32, f94_33, f94_34, f94_37, f94_38, f94_39, f94_40, f94_41, v94, pm_Pv_some, pm_Ph_some, pm_B_some, pm_B_none]
    grind
  · rw [if_neg h]
    grind
theorem V_field : pm_V ol orc 100 [.ref 0, .int c, .int p, .int t] (mk A I L g) = if (0 ≤ c ∧ c < 6) ∧ (0 ≤ p ∧ p < 8) ∧ tKnown t then some (some (.int 1), mk (sA (sA A 3 c.toNatClampNeg p) 4 c.toNatClampNeg t) I L g) else some (some (.int 0), mk A I L g) := by
  simp only [f100_0, f100_1, f100_4, f100_5, f100_6, f100_7, f100_10, v100, pm_Pv_some, pm_Ph_some, pm_B_some, pm_B_none, fd_0_0, is_1, V_setField, if_true, pm_B_ite]
  grind
theorem M_field : pm_V ol orc 120 [.ref 48, .int c, .int p, .int t] (mk A I L g) = if (0 ≤ c ∧ c < 6) ∧ (0 ≤ p ∧ p < 8) ∧ tKnown t then some (some (.int 1), mk (sA (sA A 50 c.toNatClampNeg p) 51 c.toNatClampNeg t) (sI I 48 0 0) L g) else some (some (.int 0), mk A (sI I 48 0 0) L g) := by
  simp only [f120_0, f120_1, f120_2, f120_5, f120_6, f120_9, f120_10, f120_11, f120_14, f120_15, f120_18, f120_19, f120_21, f120_24, f120_25, f120_28, f120_31, f120_32, f120_33, f120_34, f120_37, f120_38, f120_39, f120_40, f120_41, f120_44, f120_45, f120_46, f120_47, f120_48, v120, pm_Pv_some, pm_Ph_some, pm_B_some, pm_B_none, fs_48_0, fd_48_2, fd_48_3, M_isKnown, b1_0]
  by_cases h : (0 ≤ c ∧ c < 6) ∧ (0 ≤ p ∧ p < 8) ∧ tKnown t
  · have hi : inb c 6 := inb_of (by grind) (by show c < 6; grind) (by decide)
    rw [if_pos h, si_50 _ _ _ _ _ _ hi]
    simp only [f120_0, f120_1, f120_2, f120_5, f120_6, f120_9, f120_10, f120_11, f120_14, f120_15, f120_18, f120_19, f120_21, f120_24, f120_25, f120_28, f120_31, f120_32, f120_33, f120_34, f120_37, f120_38, f120_39, f120_40, f120_41, f120_44, f120_45, f120_46, f120_47, f120_48, v120, pm_Pv_some, pm_Ph_some, pm_B_some, pm_B_none, fd_48_3]
    rw [si_51 _ _ _ _ _ _ hi]
    simp only [f120_0, f120_1, f120_2, f120_5, f120_6, f120_9, f120_10, f120_11, f120_14, f120_15, f120_18, f120_19, f120_21, f120_24, f120_25, f120_28, f120_31, f120_32, f120_33, f120_34, f120_37, f120_38, f120_39, f120_40, f120_41, f120_44, f120_45, f120_46, f120_47, f120_48, v120, pm_Pv_some, pm_Ph_some, pm_B_some, pm_B_none]
    grind
  · rw [if_neg h]
    grind
/-- how many types are told before NONE -/
abbrev sgN (x y z w : Int32) : Int32 := if x = -1 then 0 else if y = -1 then 1 else if z = -1 then 2 else if w = -1 then 3 else 4
abbrev sgOK (x y z w t : Int32) : Prop := (t = 0 ∨ tKnown t) ∧ (x = -1 ∨ tKnown x) ∧ (y = -1 ∨ ¬ x = -1 ∧ tKnown y) ∧ (z = -1 ∨ ¬ y = -1 ∧ tKnown z) ∧ (w = -1 ∨ ¬ z = -1 ∧ tKnown w)
theorem V_set6 : pm_V ol orc 38 [.ref 6, .int x, .int y, .int z, .int w, .int t] (mk A I L g) = if sgOK x y z w t then some (some (.int 1), mk (sA (sA (sA (sA A 7 0 x) 7 1 y) 7 2 z) 7 3 w) (sI (sI I 6 1 (sgN x y z w)) 6 2 t) L g) else some (some (.int 0), mk A I L g) := by
  have e0 : inb 0 4 := inb_nI (j := 0) (by decide) (by decide)
  have e1 : inb 1 4 := inb_nI (j := 1) (by decide) (by decide)
  have e2 : inb 2 4 := inb_nI (j := 2) (by decide) (by decide)
  have e3 : inb 3 4 := inb_nI (j := 3) (by decide) (by decide)
  have k0 : (0 : Int32).toNatClampNeg = 0 := by decide
  have k1 : (1 : Int32).toNatClampNeg = 1 := by decide
  have k2 : (2 : Int32).toNatClampNeg = 2 := by decide
  have k3 : (3 : Int32).toNatClampNeg = 3 := by decide
  simp only [f38_0, f38_2, f38_5, f38_7, f38_10, f38_13, f38_14, f38_15, f38_16, f38_19, f38_22, f38_23, f38_26, f38_29, f38_30, f38_33, f38_36, f38_38, f38_41, f38_44, f38_45, f38_46, f38_47, f38_48, f38_51, f38_52, f38_53, f38_56, f38_57, f38_58, f38_61, f38_62, f38_63, f38_66, f38_67, f38_68, f38_71, f38_73, f38_74, f38_77, f38_78, f38_79, f38_80, f38_83, f38_84, f38_85, f38_86, f38_87, f38_90, f38_91, f38_92, f38_93, f38_94, f38_97, f38_98, f38_99, f38_100, f38_101, f38_104, f38_105, f38_107, f38_108, f38_109, f38_110, f38_111, f38_114, f38_115, f38_118, f38_119, f38_120, f38_123, f38_124, f38_127, f38_128, f38_129, f38_132, f38_133, f38_136, f38_138, f38_139, f38_142, f38_143, f38_146, f38_147, f38_150, f38_151, f38_153, f38_156, f38_157, v38, pm_Pv_some, pm_Ph_some, pm_B_some, pm_B_none, fd_6_0, fs_6_1, fs_6_2, V_isKnown, V_isKnownOrNone, b1_0, si_7 _ _ _ _ _ _ e0, si_7 _ _ _ _ _ _ e1, si_7 _ _ _ _ _ _ e2, si_7 _ _ _ _ _ _ e3, k0, k1, k2, k3]
  by_cases h : sgOK x y z w t
  · rw [if_pos h]
    grind
  · rw [if_neg h]
    grind
theorem V_set8 : pm_V ol orc 38 [.ref 8, .int x, .int y, .int z, .int w, .int t] (mk A I L g) = if sgOK x y z w t then some (some (.int 1), mk (sA (sA (sA (sA A 9 0 x) 9 1 y) 9 2 z) 9 3 w) (sI (sI I 8 1 (sgN x y z w)) 8 2 t) L g) else some (some (.int 0), mk A I L g) := by
  have e0 : inb 0 4 := inb_nI (j := 0) (by decide) (by decide)
  have e1 : inb 1 4 := inb_nI (j := 1) (by decide) (by decide)
  have e2 : inb 2 4 := inb_nI (j := 2) (by decide) (by decide)
  have e3 : inb 3 4 := inb_nI (j := 3) (by decide) (by decide)
  have k0 : (0 : Int32).toNatClampNeg = 0 := by decide
  have k1 : (1 : Int32).toNatClampNeg = 1 := by decide
  have k2 : (2 : Int32).toNatClampNeg = 2 := by decide
  have k3 : (3 : Int32).toNatClampNeg = 3 := by decide
  simp only [f38_0, f38_2, f38_5, f38_7, f38_10, f38_13, f38_14, f38_15, f38_16, f38_19, f38_22, f38_23, f38_26, f38_29, f38_30, f38_33, f38_36, f38_38, f38_41, f38_44, f38_45, f38_46, f38_47, f38_48, f38_51, f38_52, f38_53, f38_56, f38_57, f38_58, f38_61, f38_62, f38_63, f38_66, f38_67, f38_68, f38_71, f38_73, f38_74, f38_77, f38_78, f38_79, f38_80, f38_83, f38_84, f38_85, f38_86, f38_87, f38_90, f38_91, f38_92, f38_93, f38_94, f38_97, f38_98, f38_99, f38_100, f38_101, f38_104, f38_105, f38_107, f38_108, f38_109, f38_110, f38_111, f38_114, f38_115, f38_118, f38_119, f38_120, f38_123, f38_124, f38_127, f38_128, f38_129, f38_132, f38_133, f38_136, f38_138, f38_139, f38_142, f38_143, f38_146, f38_147, f38_150, f38_151, f38_153, f38_156, f38_157, v38, pm_Pv_some, pm_Ph_some, pm_B_some, pm_B_none, fd_8_0, fs_8_1, fs_8_2, V_isKnown, V_isKnownOrNone, b1_0, si_9 _ _ _ _ _ _ e0, si_9 _ _ _ _ _ _ e1, si_9 _ _ _ _ _ _ e2, si_9 _ _ _ _ _ _ e3, k0, k1, k2, k3]
  by_cases h : sgOK x y z w t
  · rw [if_pos h]
    grind
  · rw [if_neg h]
    grind
theorem V_set10 : pm_V ol orc 38 [.ref 10, .int x, .int y, .int z, .int w, .int t] (mk A I L g) = if sgOK x y z w t then some (some (.int 1), mk (sA (sA (sA (sA A 11 0 x) 11 1 y) 11 2 z) 11 3 w) (sI (sI I 10 1 (sgN x y z w)) 10 2 t) L g) else some (some (.int 0), mk A I L g) := by
  have e0 : inb 0 4 := inb_nI (j := 0) (by decide) (by decide)
  have e1 : inb 1 4 := inb_nI (j := 1) (by decide) (by decide)
  have e2 : inb 2 4 := inb_nI (j := 2) (by decide) (by decide)
  have e3 : inb 3 4 := inb_nI (j := 3) (by decide) (by decide)
  have k0 : (0 : Int32).toNatClampNeg = 0 := by decide
  have k1 : (1 : Int32).toNatClampNeg = 1 := by decide
  have k2 : (2 : Int32).toNatClampNeg = 2 := by decide
  have k3 : (3 : Int32).toNatClampNeg = 3 := by decide
  simp only [f38_0, f38_2, f38_5, f38_7, f38_10, f38_13, f38_14, f38_15, f38_16, f38_19, f38_22, f38_23, f38_26, f38_29, f38_30, f38_33, f38_36, f38_38, f38_41, f38_44, f38_45, f38_46, f38_47, f38_48, f38_51, f38_52, f38_53, f38_56, f38_57, f38_58, f38_61, f38_62, f38_63, f38_66, f38_67, f38_68, f38_71, f38_73, f38_74, f38_77, f38_78, f38_79, f38_80, f38_83, f38_84, f38_85, f38_86, f38_87, f38_90, f38_91, f38_92, f38_93, f38_94, f38_97, f38_98, f38_99, f38_100, f38_101, f38_104, f38_105, f38_107, f38_108, f38_109, f38_110, f38_111, f38_114, f38_115, f38_118, f38_119, f38_120, f38_123, f38_124, f38_127, f38_128, f38_129, f38_132, f38_133, f38_136, f38_138, f38_139, f38_142, f38_143, f38_146, f38_147, f38_150, f38_151, f38_153, f38_156, f38_157, v38, pm_Pv_some, pm_Ph_some, pm_B_some, pm_B_none, fd_10_0, fs_10_1, fs_10_2, V_isKnown, V_isKnownOrNone, b1_0, si_11 _ _ _ _ _ _ e0, si_11 _ _ _ _ _ _ e1, si_11 _ _ _ _ _ _ e2, si_11 _ _ _ _ _ _ e3, k0, k1, k2, k3]
  by_cases h : sgOK x y z w t
  · rw [if_pos h]
    grind
  · rw [if_neg h]
    grind
theorem V_set12 : pm_V ol orc 38 [.ref 12, .int x, .int y, .int z, .int w, .int t] (mk A I L g) = if sgOK x y z w t then some (some (.int 1), mk (sA (sA (sA (sA A 13 0 x) 13 1 y) 13 2 z) 13 3 w) (sI (sI I 12 1 (sgN x y z w)) 12 2 t) L g) else some (some (.int 0), mk A I L g) := by
  have e0 : inb 0 4 := inb_nI (j := 0) (by decide) (by decide)
  have e1 : inb 1 4 := inb_nI (j := 1) (by decide) (by decide)
  have e2 : inb 2 4 := inb_nI (j := 2) (by decide) (by decide)
  have e3 : inb 3 4 := inb_nI (j := 3) (by decide) (by decide)
  have k0 : (0 : Int32).toNatClampNeg = 0 := by decide
  have k1 : (1 : Int32).toNatClampNeg = 1 := by decide
  have k2 : (2 : Int32).toNatClampNeg = 2 := by decide
  have k3 : (3 : Int32).toNatClampNeg = 3 := by decide
  simp only [f38_0, f38_2, f38_5, f38_7, f38_10, f38_13, f38_14, f38_15, f38_16, f38_19, f38_22, f38_23, f38_26, f38_29, f38_30, f38_33, f38_36, f38_38, f38_41, f38_44, f38_45, f38_46, f38_47, f38_48, f38_51, f38_52, f38_53, f38_56, f38_57, f38_58, f38_61, f38_62, f38_63, f38_66, f38_67, f38_68, f38_71, f38_73, f38_74, f38_77, f38_78, f38_79, f38_80, f38_83, f38_84, f38_85, f38_86, f38_87, f38_90, f38_91, f38_92, f38_93, f38_94, f38_97, f38_98, f38_99, f38_100, f38_101, f38_104, f38_105, f38_107, f38_108, f38_109, f38_110, f38_111, f38_114, f38_115, f38_118, f38_119, f38_120, f38_123, f38_124, f38_127, f38_128, f38_129, f38_132, f38_133, f38_136, f38_138, f38_139, f38_142, f38_143, f38_146, f38_147, f38_150, f38_151, f38_153, f38_156, f38_157, v38, pm_Pv_some, pm_Ph_some, pm_B_some, pm_B_none, fd_12_0, fs_12_1, fs_12_2, V_isKnown, V_isKnownOrNone, b1_0, si_13 _ _ _ _ _ _ e0, si_13 _ _ _ _ _ _ e1, si_13 _ _ _ _ _ _ e2, si_13 _ _ _ _ _ _ e3, k0, k1, k2, k3]
  by_cases h : sgOK x y z w t
  · rw [if_pos h]
    grind
  · rw [if_neg h]
    grind
theorem V_set14 : pm_V ol orc 38 [.ref 14, .int x, .int y, .int z, .int w, .int t] (mk A I L g) = if sgOK x y z w t then some (some (.int 1), mk (sA (sA (sA (sA A 15 0 x) 15 1 y) 15 2 z) 15 3 w) (sI (sI I 14 1 (sgN x y z w)) 14 2 t) L g) else some (some (.int 0), mk A I L g) := by
  have e0 : inb 0 4 := inb_nI (j := 0) (by decide) (by decide)
  have e1 : inb 1 4 := inb_nI (j := 1) (by decide) (by decide)
  have e2 : inb 2 4 := inb_nI (j := 2) (by decide) (by decide)
  have e3 : inb 3 4 := inb_nI (j := 3) (by decide) (by decide)
  have k0 : (0 : Int32).toNatClampNeg = 0 := by decide
  have k1 : (1 : Int32).toNatClampNeg = 1 := by decide
  have k2 : (2 : Int32).toNatClampNeg = 2 := by decide
  have k3 : (3 : Int32).toNatClampNeg = 3 := by decide
  simp only [f38_0, f38_2, f38_5, f38_7, f38_10, f38_13, f38_14, f38_15, f38_16, f38_19, f38_22, f38_23, f38_26, f38_29, f38_30, f38_33, f38_36, f38_38, f38_41, f38_44, f38_45, f38_46, f38_47, f38_48, f38_51, f38_52, f38_53, f38_56, f38_57, f38_58, f38_61, f38_62, f38_63, f38_66, f38_67, f38_68, f38_71, f38_73, f38_74, f38_77, f38_78, f38_79, f38_80, f38_83, f38_84, f38_85, f38_86, f38_87, f38_90, f38_91, f38_92, f38_93, f38_94, f38_97, f38_98, f38_99, f38_100, f38_101, f38_104, f38_105, f38_107, f38_108, f38_109, f38_110, f38_111, f38_114, f38_115, f38_118, f38_119, f38_120, f38_123, f38_124, f38_127, f38_128, f38_129, f38_132, f38_133, f38_136, f38_138, f38_139, f38_142, f38_143, f38_146, f38_147, f38_150, f38_151, f38_153, f38_156, f38_157, v38, pm_Pv_some, pm_Ph_some, pm_B_some, pm_B_none, fd_14_0, fs_14_1, fs_14_2, V_isKnown, V_isKnownOrNone, b1_0, si_15 _ _ _ _ _ _ e0, si_15 _ _ _ _ _ _ e1, si_15 _ _ _ _ _ _ e2, si_15 _ _ _ _ _ _ e3, k0, k1, k2, k3]
  by_cases h : sgOK x y z w t
  · rw [if_pos h]
    grind
  · rw [if_neg h]
    grind
theorem V_set16 : pm_V ol orc 38 [.ref 16, .int x, .int y, .int z, .int w, .int t] (mk A I L g) = if sgOK x y z w t then some (some (.int 1), mk (sA (sA (sA (sA A 17 0 x) 17 1 y) 17 2 z) 17 3 w) (sI (sI I 16 1 (sgN x y z w)) 16 2 t) L g) else some (some (.int 0), mk A I L g) := by
  have e0 : inb 0 4 := inb_nI (j := 0) (by decide) (by decide)
  have e1 : inb 1 4 := inb_nI (j := 1) (by decide) (by decide)
  have e2 : inb 2 4 := inb_nI (j := 2) (by decide) (by decide)
  have e3 : inb 3 4 := inb_nI (j := 3) (by decide) (by decide)
  have k0 : (0 : Int32).toNatClampNeg = 0 := by decide
  have k1 : (1 : Int32).toNatClampNeg = 1 := by decide
  have k2 : (2 : Int32).toNatClampNeg = 2 := by decide
  have k3 : (3 : Int32).toNatClampNeg = 3 := by decide
  simp only [f38_0, f38_2, f38_5, f38_7, f38_10, f38_13, f38_14, f38_15, f38_16, f38_19, f38_22, f38_23, f38_26, f38_29, f38_30, f38_33, f38_36, f38_38, f38_41, f38_44, f38_45, f38_46, f38_47, f38_48, f38_51, f38_52, f38_53, f38_56, f38_57, f38_58, f38_61, f38_62, f38_63, f38_66, f38_67, f38_68, f38_71, f38_73, f38_74, f38_77, f38_78, f38_79, f38_80, f38_83, f38_84, f38_85, f38_86, f38_87, f38_90, f38_91, f38_92, f38_93, f38_94, f38_97, f38_98, f38_99, f38_100, f38_101, f38_104, f38_105, f38_107, f38_108, f38_109, f38_110, f38_111, f38_114, f38_115, f38_118, f38_119, f38_120, f38_123, f38_124, f38_127, f38_128, f38_129, f38_132, f38_133, f38_136, f38_138, f38_139, f38_142, f38_143, f38_146, f38_147, f38_150, f38_151, f38_153, f38_156, f38_157, v38, pm_Pv_some, pm_Ph_some, pm_B_some, pm_B_none, fd_16_0, fs_16_1, fs_16_2, V_isKnown, V_isKnownOrNone, b1_0, si_17 _ _ _ _ _ _ e0, si_17 _ _ _ _ _ _ e1, si_17 _ _ _ _ _ _ e2, si_17 _ _ _ _ _ _ e3, k0, k1, k2, k3]
  by_cases h : sgOK x y z w t
  · rw [if_pos h]
    grind
  · rw [if_neg h]
    grind
theorem V_set18 : pm_V ol orc 38 [.ref 18, .int x, .int y, .int z, .int w, .int t] (mk A I L g) = if sgOK x y z w t then some (some (.int 1), mk (sA (sA (sA (sA A 19 0 x) 19 1 y) 19 2 z) 19 3 w) (sI (sI I 18 1 (sgN x y z w)) 18 2 t) L g) else some (some (.int 0), mk A I L g) := by
  have e0 : inb 0 4 := inb_nI (j := 0) (by decide) (by decide)
  have e1 : inb 1 4 := inb_nI (j := 1) (by decide) (by decide)
  have e2 : inb 2 4 := inb_nI (j := 2) (by decide) (by decide)
  have e3 : inb 3 4 := inb_nI (j := 3) (by decide) (by decide)
  have k0 : (0 : Int32).toNatClampNeg = 0 := by decide
  have k1 : (1 : Int32).toNatClampNeg = 1 := by decide
  have k2 : (2 : Int32).toNatClampNeg = 2 := by decide
  have k3 : (3 : Int32).toNatClampNeg = 3 := by decide
  simp only [f38_0, f38_2, f38_5, f38_7, f38_10, f38_13, f38_14, f38_15, f38_16, f38_19, f38_22, f38_23, f38_26, f38_29, f38_30, f38_33, f38_36, f38_38, f38_41, f38_44, f38_45, f38_46, f38_47, f38_48, f38_51, f38_52, f38_53, f38_56, f38_57, f38_58, f38_61, f38_62, f38_63, f38_66, f38_67, f38_68, f38_71, f38_73, f38_74, f38_77, f38_78, f38_79, f38_80, f38_83, f38_84, f38_85, f38_86, f38_87, f38_90, f38_91, f38_92, f38_93, f38_94, f38_97, f38_98, f38_99, f38_100, f38_101, f38_104, f38_105, f38_107, f38_108, f38_109, f38_110, f38_111, f38_114, f38_115, f38_118, f38_119, f38_120, f38_123, f38_124, f38_127, f38_128, f38_129, f38_132, f38_133, f38_136, f38_138, f38_139, f38_142, f38_143, f38_146, f38_147, f38_150, f38_151, f38_153, f38_156, f38_157, v38, pm_Pv_some, pm_Ph_some, pm_B_some, pm_B_none, fd_18_0, fs_18_1, fs_18_2, V_isKnown, V_isKnownOrNone, b1_0, si_19 _ _ _ _ _ _ e0, si_19 _ _ _ _ _ _ e1, si_19 _ _ _ _ _ _ e2, si_19 _ _ _ _ _ _ e3, k0, k1, k2, k3]
  by_cases h : sgOK x y z w t
  · rw [if_pos h]
    grind
  · rw [if_neg h]
    grind
end FACE
