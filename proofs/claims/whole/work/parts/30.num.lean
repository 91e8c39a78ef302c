/-! predicates of types, and the methods that say them -/
def b1 (p : Prop) [Decidable p] : Int32 := if p then 1 else 0
theorem b1_t {p : Prop} [Decidable p] (h : p) : b1 p = 1 := if_pos h
theorem b1_f {p : Prop} [Decidable p] (h : ¬ p) : b1 p = 0 := if_neg h
theorem b1_0 (p : Prop) [Decidable p] : (b1 p = 0) = ¬ p := by
  unfold b1
  split <;> simp_all
theorem b1_1 (p : Prop) [Decidable p] : (b1 p = 1) = p := by
  unfold b1
  split <;> simp_all
theorem b1_or (p : Prop) [Decidable p] : (b1 p = 0 ∨ b1 p = 1) = True := by
  unfold b1
  split <;> simp
abbrev tObj (t : Int32) : Prop := 16 ≤ t ∧ t < 24
abbrev tNew (t : Int32) : Prop := 64 ≤ t ∧ t < 112
abbrev tKnown (t : Int32) : Prop := t = 1 ∨ tObj t
section NUM
variable (ol : pm_O) (orc : pm_Q) (t u : Int32) (h : pm_H)
theorem V_isObject : pm_V ol orc 88 [.int t] h = some (some (.int (b1 (tObj t))), h) := by
  simp only [f88_0, f88_1, f88_3, f88_6, f88_7, f88_9, f88_12, f88_13, f88_16, f88_17, v88]
  grind [b1]
theorem V_isNew : pm_V ol orc 89 [.int t] h = some (some (.int (b1 (tNew t))), h) := by
  simp only [f89_0, f89_1, f89_3, f89_6, f89_7, f89_9, f89_12, f89_13, f89_16, f89_17, v89]
  grind [b1]
theorem V_isClass : pm_V ol orc 87 [.int t] h = some (some (.int (b1 (0 ≤ t ∧ t < 8))), h) := by
  simp only [f87_0, f87_1, f87_4, f87_5, f87_7, f87_10, f87_11, f87_14, f87_15, v87]
  grind [b1]
theorem V_isKnown : pm_V ol orc 91 [.int t] h = some (some (.int (b1 (tKnown t))), h) := by
  simp only [f91_0, f91_1, f91_2, f91_5, f91_6, f91_9, f91_12, f91_13, f91_16, f91_17, v91, V_isObject, pm_Pv_some, pm_Ph_some, pm_B_some, pm_B_none, b1_0, b1_or]
  grind [b1]
theorem V_isKnownOrNone : pm_V ol orc 92 [.int t] h = some (some (.int (b1 (t = -1 ∨ tKnown t))), h) := by
  simp only [f92_0, f92_1, f92_2, f92_5, f92_6, f92_9, f92_12, f92_13, f92_16, f92_17, v92, V_isKnown, pm_Pv_some, pm_Ph_some, pm_B_some, pm_B_none, b1_0, b1_or]
  grind [b1]
theorem V_isReference : pm_V ol orc 90 [.int t] h = some (some (.int (b1 (t = 2 ∨ tObj t ∨ tNew t))), h) := by
  simp only [f90_0, f90_1, f90_2, f90_5, f90_6, f90_9, f90_12, f90_13, f90_16, f90_19, f90_20, f90_23, f90_24, v90, V_isObject, V_isNew, pm_Pv_some, pm_Ph_some, pm_B_some, pm_B_none, b1_0, b1_or]
  grind [b1]
theorem M_isObject : pm_V ol orc 113 [.int t] h = some (some (.int (b1 (tObj t))), h) := by
  simp only [f113_0, f113_1, f113_3, f113_6, f113_7, f113_9, f113_12, f113_13, f113_16, f113_17, v113]
  grind [b1]
theorem M_isKnown : pm_V ol orc 114 [.int t] h = some (some (.int (b1 (tKnown t))), h) := by
  simp only [f114_0, f114_1, f114_2, f114_5, f114_6, f114_9, f114_12, f114_13, f114_16, f114_17, v114, M_isObject, pm_Pv_some, pm_Ph_some, pm_B_some, pm_B_none, b1_0, b1_or]
  grind [b1]
theorem M_isNew : pm_V ol orc 115 [.int t] h = some (some (.int (b1 (64 ≤ t))), h) := by
  simp only [f115_0, f115_1, f115_3, f115_6, f115_7, f115_10, f115_11, v115]
  grind [b1]
theorem M_isPlain : pm_V ol orc 140 [.int t] h = some (some (.int (b1 (t = 2 ∨ tObj t))), h) := by
  simp only [f140_0, f140_1, f140_2, f140_5, f140_6, f140_9, f140_12, f140_13, f140_16, f140_17, v140, M_isObject, pm_Pv_some, pm_Ph_some, pm_B_some, pm_B_none, b1_0, b1_or]
  grind [b1]
theorem M_mayBe : pm_V ol orc 121 [.int t, .int u] h = some (some (.int (b1 (u = -1 ∨ ¬ t = -1 ∧ tKnown u))), h) := by
  simp only [f121_0, f121_1, f121_2, f121_5, f121_6, f121_7, f121_10, f121_11, f121_14, f121_17, f121_18, f121_21, f121_22, v121, M_isKnown, pm_Pv_some, pm_Ph_some, pm_B_some, pm_B_none, b1_0, b1_or]
  grind [b1]
end NUM
