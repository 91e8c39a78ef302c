theorem T_isObject (ol : pm_O) (orc : pm_Q) (t : Int32) (h : pm_H) : pm_V ol orc 88 [.int t] h = some (some (.int (if 16 ≤ t ∧ t < 24 then 1 else 0)), h) := by
  simp only [f88_0, f88_1, f88_3, f88_6, f88_7, f88_9, f88_12, f88_13, f88_16, f88_17, v88]
  by_cases h1 : t < 16
  · sorry
  · sorry
theorem T_get24 (ol : pm_O) (orc : pm_Q) (i : Int32) (A I : Nat → Nat → Int32) (L : Nat → Int64) (g : pm_H) (hI : I 24 1 ≤ 120) : pm_V ol orc 2 [.ref 24, .int i] (mk A I L g) = some (some (.int (if 0 ≤ i ∧ i < I 24 1 then A 25 i.toNatClampNeg else -1)), mk A I L g) := by
  simp only [f2_0, f2_1, f2_4, f2_5, f2_6, f2_9, f2_12, f2_13, f2_14, f2_17, f2_18, f2_21, f2_22, f2_25, f2_26, f2_27, f2_30, f2_31, v2, pm_Pv_some, pm_Ph_some, pm_B_some, pm_B_none, fd_24_0, fd_24_1, ln_25]
  sorry
theorem T_put24 (ol : pm_O) (orc : pm_Q) (i : Int32) (A I : Nat → Nat → Int32) (L : Nat → Int64) (g : pm_H) (hI : I 24 1 ≤ 120) : pm_V ol orc 4 [.ref 24, .int i] (mk A I L g) = none := by
  simp only [f4_0, f4_1, f4_4, f4_5, f4_8, f4_9, f4_12, f4_13, f4_16, f4_17, f4_20, f4_21, f4_22, f4_23, f4_24, f4_27, f4_28, f4_29, f4_32, v4, pm_Pv_some, pm_Ph_some, pm_B_some, pm_B_none, fd_24_0, fd_24_1, ln_25, fs_24_1]
  sorry
