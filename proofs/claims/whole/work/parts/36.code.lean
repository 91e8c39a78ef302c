/-! the code: its instructions, of both sides -/
def cdI (A I : Nat → Nat → Int32) (p : Int32) : Int32 := if 0 ≤ p ∧ p < I 21 1 ∧ p < 48 then A 22 p.toNatClampNeg else -1
def xbI (n : Int32) : Int32 := if 0 ≤ n ∧ n < 22 then xbL.getD n.toNatClampNeg 0 else 0
abbrev hsP (n : Int32) : Prop := n = 1 ∨ (3 ≤ n ∧ n ≤ 6) ∨ (11 ≤ n ∧ n ≤ 14) ∨ (16 ≤ n ∧ n ≤ 18) ∨ n = 20
theorem xb_hs (n : Int32) : (xbI n = 0) = ¬ hsP n := by
  unfold xbI
  by_cases h : 0 ≤ n ∧ n < 22
  · rw [if_pos h]
    rcases pk_ix n (n := 22) (by decide) with q | q | ⟨j, hj, rfl⟩
    · grind
    · have : (22 : Int32) ≤ n := q
      grind
    · rw [clampN (by omega)]
      revert j
      decide
  · rw [if_neg h]
    grind
section COD
variable (Ls : Nat) (xs : Nat → Int32) (ol : pm_O) (orc : pm_Q) (A I : Nat → Nat → Int32) (L : Nat → Int64) (g : pm_H) (p x n : Int32)
theorem V_getc : pm_V ol orc 2 [.ref 21, .int p] (mk A I L g) = some (some (.int (cdI A I p)), mk A I L g) := V_get21 ol orc A I L g p
theorem V_size : pm_V ol orc 14 [.ref 20] (mk A I L g) = some (some (.int (I 21 1)), mk A I L g) := by
  simp only [f14_0, f14_1, f14_4, f14_7, v14, pm_Pv_some, pm_Ph_some, pm_B_some, pm_B_none, fd_20_0, fd_21_1]
theorem V_number : pm_V ol orc 15 [.ref 20, .int p] (mk A I L g) = some (some (.int (cdI A I p)), mk A I L g) := by
  simp only [f15_0, f15_1, f15_4, f15_5, f15_8, v15, pm_Pv_some, pm_Ph_some, pm_B_some, pm_B_none, fd_20_0, is_21, if_true, V_getc]
theorem V_x : pm_V ol orc 16 [.ref 20, .int p] (mk A I L g) = some (some (.int (cdI A I (p + 1))), mk A I L g) := by
  simp only [f16_0, f16_1, f16_4, f16_5, f16_6, f16_7, f16_10, v16, pm_Pv_some, pm_Ph_some, pm_B_some, pm_B_none, fd_20_0, is_21, if_true, V_getc]
theorem V_xBound : pm_V (pm_ol Ls xs) orc 17 [.ref 20, .int p] (mk A I L g) = some (some (.int (xbI (cdI A I p))), mk A I L g) := by
  simp only [f17_0, f17_1, f17_4, f17_5, f17_8, f17_9, f17_10, f17_13, f17_14, f17_16, f17_19, f17_22, f17_23, f17_24, f17_27, f17_28, v17, pm_Pv_some, pm_Ph_some, pm_B_some, pm_B_none, fd_20_0, is_21, if_true, V_getc]
  generalize cdI A I p = n
  unfold xbI
  by_cases h : 0 ≤ n ∧ n < 22
  · rw [ai_1001 _ _ _ _ (inb_of h.1 (by show n < 22; exact h.2) (by decide))]
    simp only [f17_0, f17_1, f17_4, f17_5, f17_8, f17_9, f17_10, f17_13, f17_14, f17_16, f17_19, f17_22, f17_23, f17_24, f17_27, f17_28, v17, pm_Pv_some, pm_Ph_some, pm_B_some, pm_B_none]
    grind
  · grind
theorem V_behind : pm_V (pm_ol Ls xs) orc 18 [.ref 20, .int p] (mk A I L g) = some (some (.int (if hsP (cdI A I p) then p + 2 else p + 1)), mk A I L g) := by
  simp only [f18_0, f18_1, f18_2, f18_5, f18_8, f18_9, f18_10, f18_11, f18_14, f18_15, f18_16, f18_17, v18, pm_Pv_some, pm_Ph_some, pm_B_some, pm_B_none, is_20, if_true, V_xBound, xb_hs]
  generalize cdI A I p = n
  grind
theorem V_isWhole : pm_V (pm_ol Ls xs) orc 19 [.ref 20, .int p] (mk A I L g) = some (some (.int (b1 ((0 ≤ cdI A I p ∧ cdI A I p < 22) ∧ (if hsP (cdI A I p) then p + 2 else p + 1) ≤ I 21 1))), mk A I L g) := by
  simp only [f19_0, f19_1, f19_2, f19_5, f19_6, f19_7, f19_10, f19_11, f19_13, f19_16, f19_17, f19_18, f19_21, f19_22, f19_25, f19_28, f19_29, f19_32, f19_33, v19, pm_Pv_some, pm_Ph_some, pm_B_some, pm_B_none, is_20, if_true, V_number, V_behind, V_size]
  generalize cdI A I p = n
  grind [b1]
theorem V_isXRight : pm_V (pm_ol Ls xs) orc 20 [.ref 20, .int p] (mk A I L g) = some (some (.int (b1 (¬ hsP (cdI A I p) ∨ cdI A I (p + 1) < xbI (cdI A I p)))), mk A I L g) := by
  simp only [f20_0, f20_1, f20_2, f20_5, f20_8, f20_9, f20_10, f20_13, f20_14, f20_15, f20_18, f20_21, f20_22, f20_25, f20_26, v20, pm_Pv_some, pm_Ph_some, pm_B_some, pm_B_none, is_20, if_true, V_xBound, V_x, xb_hs]
  generalize cdI A I (p + 1) = y
  generalize cdI A I p = n
  grind [b1]
theorem V_goes : pm_V ol orc 24 [.ref 20, .int p] (mk A I L g) = some (some (.int (b1 (cdI A I p = 11 ∨ cdI A I p = 12 ∨ cdI A I p = 13))), mk A I L g) := by
  simp only [f24_0, f24_1, f24_2, f24_5, f24_6, f24_7, f24_9, f24_12, f24_13, f24_15, f24_18, f24_19, f24_21, f24_24, f24_25, f24_28, f24_29, v24, pm_Pv_some, pm_Ph_some, pm_B_some, pm_B_none, is_20, if_true, V_number]
  generalize cdI A I p = n
  grind [b1]
theorem V_goesOn : pm_V ol orc 25 [.ref 20, .int p] (mk A I L g) = some (some (.int (b1 (¬ cdI A I p = 11 ∧ ¬ cdI A I p = 19 ∧ ¬ cdI A I p = 21))), mk A I L g) := by
  simp only [f25_0, f25_1, f25_2, f25_5, f25_6, f25_7, f25_9, f25_12, f25_13, f25_15, f25_18, f25_19, f25_21, f25_24, f25_25, f25_28, f25_29, v25, pm_Pv_some, pm_Ph_some, pm_B_some, pm_B_none, is_20, if_true, V_number]
  generalize cdI A I p = n
  grind [b1]
theorem V_target : pm_V ol orc 26 [.ref 20, .int p] (mk A I L g) = some (some (.int (p + (cdI A I (p + 1)).toInt8.toInt32)), mk A I L g) := by
  simp only [f26_0, f26_1, f26_2, f26_3, f26_6, f26_7, f26_8, v26, pm_Pv_some, pm_Ph_some, pm_B_some, pm_B_none, is_20, if_true, V_x]
theorem V_begins : pm_V ol orc 22 [.ref 20, .int p] (mk A I L g) = some (some (.int (b1 ((0 ≤ p ∧ p < 48) ∧ ¬ A 23 p.toNatClampNeg = 0))), mk A I L g) := by
  simp only [f22_0, f22_1, f22_4, f22_5, f22_7, f22_10, f22_11, f22_14, f22_15, f22_16, f22_19, f22_20, f22_23, f22_24, v22, pm_Pv_some, pm_Ph_some, pm_B_some, pm_B_none, fd_20_1]
  by_cases h : 0 ≤ p ∧ p < 48
  · rw [az_23 _ _ _ _ _ (inb_of h.1 (by show p < 48; exact h.2) (by decide))]
    simp only [f22_0, f22_1, f22_4, f22_5, f22_7, f22_10, f22_11, f22_14, f22_15, f22_16, f22_19, f22_20, f22_23, f22_24, v22, pm_Pv_some, pm_Ph_some, pm_B_some, pm_B_none]
    grind [b1]
  · grind [b1]
theorem V_isNewOfClass : pm_V ol orc 23 [.ref 20, .int p] (mk A I L g) = some (some (.int (b1 (((0 ≤ p ∧ p < 48) ∧ ¬ A 23 p.toNatClampNeg = 0) ∧ cdI A I p = 14 ∧ 0 ≤ cdI A I (p + 1) ∧ cdI A I (p + 1) < 8))), mk A I L g) := by
  simp only [f23_0, f23_1, f23_2, f23_5, f23_8, f23_9, f23_12, f23_13, f23_16, f23_18, f23_21, f23_22, f23_25, f23_26, f23_27, f23_28, f23_31, f23_34, f23_37, f23_38, f23_41, f23_42, v23, pm_Pv_some, pm_Ph_some, pm_B_some, pm_B_none, is_20, fd_20_0, is_21, if_true, V_begins, V_getc, V_isClass, b1_0]
  generalize A 23 p.toNatClampNeg = z
  generalize cdI A I p = n
  generalize cdI A I (p + 1) = y
  grind [b1]
theorem M_hasSecond : pm_V ol orc 136 [.int n] (mk A I L g) = some (some (.int (b1 (hsP n))), mk A I L g) := by
  simp only [f136_0, f136_1, f136_2, f136_5, f136_6, f136_7, f136_10, f136_11, f136_13, f136_16, f136_17, f136_19, f136_22, f136_23, f136_25, f136_28, f136_29, f136_31, f136_34, f136_35, f136_37, f136_40, f136_41, f136_43, f136_46, f136_47, f136_50, f136_51, v136]
  grind [b1]
theorem M_isWhole (h0 : 0 ≤ p) (h1 : p < I 48 11) (h2 : I 48 11 ≤ 48) : pm_V ol orc 137 [.ref 48, .int p] (mk A I L g) = some (some (.int (b1 (A 56 p.toNatClampNeg ≤ 21 ∧ (¬ hsP (A 56 p.toNatClampNeg) ∨ p + 1 < I 48 11)))), mk A I L g) := by
  simp only [f137_0, f137_1, f137_4, f137_5, f137_6, f137_8, f137_11, f137_12, f137_15, f137_16, f137_17, f137_20, f137_23, f137_24, f137_25, f137_26, f137_27, f137_30, f137_33, f137_34, f137_37, f137_38, v137, pm_Pv_some, pm_Ph_some, pm_B_some, pm_B_none, fd_48_10, fd_48_11, ai_56 _ _ _ _ _ _ (inb_of h0 (by show p < 48; grind) (by decide)), M_hasSecond, b1_0]
  generalize A 56 p.toNatClampNeg = n
  grind [b1]
theorem M_isSecondGood : pm_V ol orc 141 [.int n, .int x] (mk A I L g) = some (some (.int (b1 (if 3 ≤ n ∧ n ≤ 6 then x < 4 else if n = 14 ∨ n = 20 then x < 8 else n < 16 ∨ 18 < n ∨ x < 6))), mk A I L g) := by
  simp only [f141_0, f141_1, f141_2, f141_5, f141_6, f141_8, f141_11, f141_12, f141_13, f141_16, f141_17, f141_20, f141_21, f141_22, f141_23, f141_25, f141_28, f141_29, f141_31, f141_34, f141_35, f141_37, f141_40, f141_41, f141_44, f141_45, f141_46, f141_47, f141_49, f141_52, f141_53, f141_55, f141_58, f141_59, f141_61, f141_64, f141_65, f141_68, f141_69, v141]
  grind [b1]
end COD
