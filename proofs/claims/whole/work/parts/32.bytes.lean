/-! rows of bytes: the class's and the reference's -/
theorem sI_sI (I : Nat → Nat → Int32) (a j : Nat) (x y : Int32) : sI (sI I a j x) a j y = sI I a j y := by
  funext b i
  unfold sI
  split <;> rfl
theorem sI_id (I : Nat → Nat → Int32) (a j : Nat) : sI I a j (I a j) = I := by
  funext b i
  unfold sI
  split
  · rename_i h; rw [h.1, h.2]
  · rfl
theorem sF_sF (A : Nat → Nat → Int32) (a : Nat) (f f2 : Nat → Int32) : sF (sF A a f) a f2 = sF A a f2 := by
  funext b
  unfold sF
  split <;> rfl
theorem sF_id (A : Nat → Nat → Int32) (a : Nat) : sF A a (A a) = A := by
  funext b
  unfold sF
  split
  · rename_i h; rw [h]
  · rfl
def byC (b : Int64) (k : Int32) : Int32 := ((b.toUInt64 >>> ((8 * k).toInt64.toUInt64 &&& Int64.toUInt64 63)).toInt64).toInt32 &&& 255
def byM (b : Int64) (k : Int32) : Int32 := ((b >>> ((8 * k).toInt64 &&& 63)) &&& 255).toInt32
/-- n bytes appended, by f -/
def apF (by_ : Nat → Int32) : Nat → (Nat → Int32) → Nat → (Nat → Int32)
  | 0, f, _ => f
  | m + 1, f, sz => apF by_ m (upd f sz (by_ m)) (sz + 1)
theorem clampN {n : Nat} (h : n < 2 ^ 31) : (nI n).toNatClampNeg = n := nI_clamp h
theorem n18 {i : Int32} (c1 : ¬ i < 1) (c2 : ¬ 8 < i) : ∃ n, 0 < n ∧ n ≤ 8 ∧ i = nI n := by
  rcases pk_ix i (n := 9) (by decide) with q | q | ⟨j, hj, rfl⟩
  · grind
  · have : (9 : Int32) ≤ i := q
    grind
  · refine ⟨j, ?_, by omega, rfl⟩
    rcases Nat.eq_zero_or_pos j with rfl | q
    · exact absurd (show nI 0 < 1 by decide) c1
    · exact q
section BYT
variable (ol : pm_O) (orc : pm_Q) (A I : Nat → Nat → Int32) (L : Nat → Int64) (g : pm_H) (i v x y z w t : Int32) (bs : Int64)
theorem V_empty21 : pm_V ol orc 1 [.ref 21] (mk A I L g) = some (none, mk A (sI I 21 1 0) L g) := by
  simp only [f1_0, f1_1, f1_2, f1_5, v1, pm_Pv_some, pm_Ph_some, pm_B_some, pm_B_none, fs_21_1]
theorem V_get21 : pm_V ol orc 2 [.ref 21, .int i] (mk A I L g) = some (some (.int (if 0 ≤ i ∧ i < I 21 1 ∧ i < 48 then A 22 i.toNatClampNeg else -1)), mk A I L g) := by
  simp only [f2_0, f2_1, f2_4, f2_5, f2_6, f2_9, f2_12, f2_13, f2_14, f2_17, f2_18, f2_21, f2_22, f2_25, f2_26, f2_27, f2_30, f2_31, v2, pm_Pv_some, pm_Ph_some, pm_B_some, pm_B_none, fd_21_0, fd_21_1, ln_22]
  by_cases h : 0 ≤ i ∧ i < I 21 1 ∧ i < 48
  · rw [ai_22 _ _ _ _ _ _ (inb_of h.1 (by show i < 48; exact h.2.2) (by decide))]
    simp only [f2_0, f2_1, f2_4, f2_5, f2_6, f2_9, f2_12, f2_13, f2_14, f2_17, f2_18, f2_21, f2_22, f2_25, f2_26, f2_27, f2_30, f2_31, v2, pm_Pv_some, pm_Ph_some, pm_B_some, pm_B_none]
    grind
  · grind
theorem V_put21 {sz : Nat} (hs : I 21 1 = nI sz) (hz : sz < 2 ^ 30) : pm_V ol orc 4 [.ref 21, .int v] (mk A I L g) = some (none, mk (if sz < 48 then sA A 22 sz v else A) (sI I 21 1 (nI (sz + 1))) L g) := by
  have e1 : nI sz + 1 = nI (sz + 1) := nI_1 sz
  have e2 : (48 ≤ nI sz) = (48 ≤ sz) := propext (nI_leI (a := 48) (by decide) (by omega))
  simp only [f4_0, f4_1, f4_4, f4_5, f4_8, f4_9, f4_12, f4_13, f4_16, f4_17, f4_20, f4_21, f4_22, f4_23, f4_24, f4_27, f4_28, f4_29, f4_32, v4, pm_Pv_some, pm_Ph_some, pm_B_some, pm_B_none, fd_21_0, fd_21_1, ln_22, fs_21_1, hs, e1, e2]
  by_cases h : sz < 48
  · rw [si_22 _ _ _ _ _ _ (inb_nI h (by decide)), clampN (by omega)]
    simp only [f4_0, f4_1, f4_4, f4_5, f4_8, f4_9, f4_12, f4_13, f4_16, f4_17, f4_20, f4_21, f4_22, f4_23, f4_24, f4_27, f4_28, f4_29, f4_32, v4, pm_Pv_some, pm_Ph_some, pm_B_some, pm_B_none, fd_21_1, fs_21_1, hs, e1]
    rw [if_pos h, if_neg (by omega)]
  · rw [if_neg h, if_pos (by omega)]
theorem V_apl21 : ∀ (m sz : Nat) (A I : Nat → Nat → Int32), I 21 1 = nI sz → sz + m ≤ 48 → pm_F ol orc 3 32 [(0, .ref 21), (1, .long bs), (4, .int (nI m - 1))] [] (mk A I L g) = some (some (.int (nI (sz + m))), mk (sF A 22 (apF (fun k => byC bs (nI k)) m (A 22) sz)) (sI I 21 1 (nI (sz + m))) L g) := by
  intro m
  induction m with
  | zero =>
    intro sz A I hs hm
    have e : nI 0 - 1 = -1 := by decide
    have e2 : ((-1 : Int32) < 0) = True := by decide
    simp only [e, f3_0, f3_1, f3_2, f3_5, f3_6, f3_8, f3_11, f3_12, f3_15, f3_16, f3_17, f3_18, f3_21, f3_22, f3_25, f3_26, f3_27, f3_28, f3_29, f3_30, f3_32, f3_34, f3_37, f3_38, f3_39, f3_41, f3_43, f3_44, f3_45, f3_46, f3_49, f3_50, f3_53, f3_56, f3_59, f3_60, f3_63, v3, pm_Pv_some, pm_Ph_some, pm_B_some, pm_B_none, fd_21_1, hs, apF, e2, if_true]
    rw [sF_id, Nat.add_zero, ← hs, sI_id]
  | succ m ih =>
    intro sz A I hs hm
    have e : nI (m + 1) - 1 = nI m := nI_pred m
    have e2 : (nI m < 0) = False := eq_false (nI_pos (by omega))
    have e3 : nI m + -1 = nI m - 1 := by grind
    rw [e, f3_32, f3_34]
    simp only [e2, if_false, f3_0, f3_1, f3_2, f3_5, f3_6, f3_8, f3_11, f3_12, f3_15, f3_16, f3_17, f3_18, f3_21, f3_22, f3_25, f3_26, f3_27, f3_28, f3_29, f3_30, f3_34, f3_37, f3_38, f3_39, f3_41, f3_43, f3_44, f3_45, f3_46, f3_49, f3_50, f3_53, f3_56, f3_59, f3_60, f3_63, v3, pm_Pv_some, pm_Ph_some, pm_B_some, pm_B_none, is_21, if_true]
    have hp := V_put21 ol orc A I L g (byC bs (nI m)) hs (by omega)
    rw [if_pos (by omega)] at hp
    unfold byC at hp
    simp only [hp, pm_Pv_some, pm_Ph_some, pm_B_some, pm_B_none, f3_0, f3_1, f3_2, f3_5, f3_6, f3_8, f3_11, f3_12, f3_15, f3_16, f3_17, f3_18, f3_21, f3_22, f3_25, f3_26, f3_27, f3_28, f3_29, f3_30, f3_34, f3_37, f3_38, f3_39, f3_41, f3_43, f3_44, f3_45, f3_46, f3_49, f3_50, f3_53, f3_56, f3_59, f3_60, f3_63, v3, e3]
    rw [ih (sz + 1) _ _ (sI_s _ _ _ _) (by omega)]
    rw [show sz + 1 + m = sz + (m + 1) by omega, sI_sI]
    unfold sA
    rw [sF_s, sF_sF]
    rfl
theorem V_appendY21 {sz n : Nat} (hs : I 21 1 = nI sz) (h2 : 0 < n) (h1 : n ≤ 8) (h3 : sz + n ≤ 48) : pm_V ol orc 3 [.ref 21, .long bs, .int (nI n)] (mk A I L g) = some (some (.int (nI (sz + n))), mk (sF A 22 (apF (fun k => byC bs (nI k)) n (A 22) sz)) (sI I 21 1 (nI (sz + n))) L g) := by
  simp only [f3_0, f3_1, f3_2, f3_5, f3_6, f3_8, f3_11, f3_12, f3_15, f3_16, f3_17, f3_18, f3_21, f3_22, f3_25, f3_26, f3_27, f3_28, f3_29, f3_30, f3_37, f3_38, f3_39, f3_41, f3_43, f3_44, f3_45, f3_46, f3_49, f3_50, f3_53, f3_56, f3_59, f3_60, f3_63, v3, pm_Pv_some, pm_Ph_some, pm_B_some, pm_B_none, fd_21_0, fd_21_1, ln_22, hs]
  have a1 : (nI n < 1) = False := eq_false (nI_nlt (a := n) (b := 1) (by omega) (by omega))
  have a2 : (8 < nI n) = False := eq_false (nI_nlt (a := 8) (b := n) (by omega) (by decide))
  have a3 : nI sz + nI n = nI (sz + n) := nI_add sz n
  have a4 : (nI (sz + n) ≤ 48) = True := eq_true (nI_le (a := sz + n) (b := 48) h3 (by decide))
  simp only [a1, a2, a3, a4, if_true, if_false]
  exact V_apl21 ol orc L g bs n sz A I hs h3
theorem V_appendN21 {sz : Nat} (hs : I 21 1 = nI sz) (hz : sz ≤ 48) (h : ¬ ∃ n, 0 < n ∧ n ≤ 8 ∧ i = nI n ∧ sz + n ≤ 48) : pm_V ol orc 3 [.ref 21, .long bs, .int i] (mk A I L g) = some (some (.int (-1)), mk A I L g) := by
  simp only [f3_0, f3_1, f3_2, f3_5, f3_6, f3_8, f3_11, f3_12, f3_15, f3_16, f3_17, f3_18, f3_21, f3_22, f3_25, f3_26, f3_27, f3_28, f3_29, f3_30, f3_37, f3_38, f3_39, f3_41, f3_43, f3_44, f3_45, f3_46, f3_49, f3_50, f3_53, f3_56, f3_59, f3_60, f3_63, v3, pm_Pv_some, pm_Ph_some, pm_B_some, pm_B_none, fd_21_0, fd_21_1, ln_22, hs]
  by_cases c1 : i < 1
  · rw [if_pos c1]
  · rw [if_neg c1]
    by_cases c2 : 8 < i
    · rw [if_pos c2]
    · rw [if_neg c2]
      obtain ⟨n, h2, h1, rfl⟩ := n18 c1 c2
      have a3 : nI sz + nI n = nI (sz + n) := nI_add sz n
      rw [a3, if_neg]
      intro q
      exact h ⟨n, h2, h1, rfl, (nI_leI (b := 48) (by omega) (by decide)).mp q⟩
theorem V_empty24 : pm_V ol orc 1 [.ref 24] (mk A I L g) = some (none, mk A (sI I 24 1 0) L g) := by
  simp only [f1_0, f1_1, f1_2, f1_5, v1, pm_Pv_some, pm_Ph_some, pm_B_some, pm_B_none, fs_24_1]
theorem V_get24 : pm_V ol orc 2 [.ref 24, .int i] (mk A I L g) = some (some (.int (if 0 ≤ i ∧ i < I 24 1 ∧ i < 120 then A 25 i.toNatClampNeg else -1)), mk A I L g) := by
  simp only [f2_0, f2_1, f2_4, f2_5, f2_6, f2_9, f2_12, f2_13, f2_14, f2_17, f2_18, f2_21, f2_22, f2_25, f2_26, f2_27, f2_30, f2_31, v2, pm_Pv_some, pm_Ph_some, pm_B_some, pm_B_none, fd_24_0, fd_24_1, ln_25]
  by_cases h : 0 ≤ i ∧ i < I 24 1 ∧ i < 120
  · rw [ai_25 _ _ _ _ _ _ (inb_of h.1 (by show i < 120; exact h.2.2) (by decide))]
    simp only [f2_0, f2_1, f2_4, f2_5, f2_6, f2_9, f2_12, f2_13, f2_14, f2_17, f2_18, f2_21, f2_22, f2_25, f2_26, f2_27, f2_30, f2_31, v2, pm_Pv_some, pm_Ph_some, pm_B_some, pm_B_none]
    grind
  · grind
theorem V_put24 {sz : Nat} (hs : I 24 1 = nI sz) (hz : sz < 2 ^ 30) : pm_V ol orc 4 [.ref 24, .int v] (mk A I L g) = some (none, mk (if sz < 120 then sA A 25 sz v else A) (sI I 24 1 (nI (sz + 1))) L g) := by
  have e1 : nI sz + 1 = nI (sz + 1) := nI_1 sz
  have e2 : (120 ≤ nI sz) = (120 ≤ sz) := propext (nI_leI (a := 120) (by decide) (by omega))
  simp only [f4_0, f4_1, f4_4, f4_5, f4_8, f4_9, f4_12, f4_13, f4_16, f4_17, f4_20, f4_21, f4_22, f4_23, f4_24, f4_27, f4_28, f4_29, f4_32, v4, pm_Pv_some, pm_Ph_some, pm_B_some, pm_B_none, fd_24_0, fd_24_1, ln_25, fs_24_1, hs, e1, e2]
  by_cases h : sz < 120
  · rw [si_25 _ _ _ _ _ _ (inb_nI h (by decide)), clampN (by omega)]
    simp only [f4_0, f4_1, f4_4, f4_5, f4_8, f4_9, f4_12, f4_13, f4_16, f4_17, f4_20, f4_21, f4_22, f4_23, f4_24, f4_27, f4_28, f4_29, f4_32, v4, pm_Pv_some, pm_Ph_some, pm_B_some, pm_B_none, fd_24_1, fs_24_1, hs, e1]
    rw [if_pos h, if_neg (by omega)]
  · rw [if_neg h, if_pos (by omega)]
theorem V_apl24 : ∀ (m sz : Nat) (A I : Nat → Nat → Int32), I 24 1 = nI sz → sz + m ≤ 120 → pm_F ol orc 3 32 [(0, .ref 24), (1, .long bs), (4, .int (nI m - 1))] [] (mk A I L g) = some (some (.int (nI (sz + m))), mk (sF A 25 (apF (fun k => byC bs (nI k)) m (A 25) sz)) (sI I 24 1 (nI (sz + m))) L g) := by
  intro m
  induction m with
  | zero =>
    intro sz A I hs hm
    have e : nI 0 - 1 = -1 := by decide
    have e2 : ((-1 : Int32) < 0) = True := by decide
    simp only [e, f3_0, f3_1, f3_2, f3_5, f3_6, f3_8, f3_11, f3_12, f3_15, f3_16, f3_17, f3_18, f3_21, f3_22, f3_25, f3_26, f3_27, f3_28, f3_29, f3_30, f3_32, f3_34, f3_37, f3_38, f3_39, f3_41, f3_43, f3_44, f3_45, f3_46, f3_49, f3_50, f3_53, f3_56, f3_59, f3_60, f3_63, v3, pm_Pv_some, pm_Ph_some, pm_B_some, pm_B_none, fd_24_1, hs, apF, e2, if_true]
    rw [sF_id, Nat.add_zero, ← hs, sI_id]
  | succ m ih =>
    intro sz A I hs hm
    have e : nI (m + 1) - 1 = nI m := nI_pred m
    have e2 : (nI m < 0) = False := eq_false (nI_pos (by omega))
    have e3 : nI m + -1 = nI m - 1 := by grind
    rw [e, f3_32, f3_34]
    simp only [e2, if_false, f3_0, f3_1, f3_2, f3_5, f3_6, f3_8, f3_11, f3_12, f3_15, f3_16, f3_17, f3_18, f3_21, f3_22, f3_25, f3_26, f3_27, f3_28, f3_29, f3_30, f3_34, f3_37, f3_38, f3_39, f3_41, f3_43, f3_44, f3_45, f3_46, f3_49, f3_50, f3_53, f3_56, f3_59, f3_60, f3_63, v3, pm_Pv_some, pm_Ph_some, pm_B_some, pm_B_none, is_24, if_true]
    have hp := V_put24 ol orc A I L g (byC bs (nI m)) hs (by omega)
    rw [if_pos (by omega)] at hp
    unfold byC at hp
    simp only [hp, pm_Pv_some, pm_Ph_some, pm_B_some, pm_B_none, f3_0, f3_1, f3_2, f3_5, f3_6, f3_8, f3_11, f3_12, f3_15, f3_16, f3_17, f3_18, f3_21, f3_22, f3_25, f3_26, f3_27, f3_28, f3_29, f3_30, f3_34, f3_37, f3_38, f3_39, f3_41, f3_43, f3_44, f3_45, f3_46, f3_49, f3_50, f3_53, f3_56, f3_59, f3_60, f3_63, v3, e3]
    rw [ih (sz + 1) _ _ (sI_s _ _ _ _) (by omega)]
    rw [show sz + 1 + m = sz + (m + 1) by omega, sI_sI]
    unfold sA
    rw [sF_s, sF_sF]
    rfl
theorem V_appendY24 {sz n : Nat} (hs : I 24 1 = nI sz) (h2 : 0 < n) (h1 : n ≤ 8) (h3 : sz + n ≤ 120) : pm_V ol orc 3 [.ref 24, .long bs, .int (nI n)] (mk A I L g) = some (some (.int (nI (sz + n))), mk (sF A 25 (apF (fun k => byC bs (nI k)) n (A 25) sz)) (sI I 24 1 (nI (sz + n))) L g) := by
  simp only [f3_0, f3_1, f3_2, f3_5, f3_6, f3_8, f3_11, f3_12, f3_15, f3_16, f3_17, f3_18, f3_21, f3_22, f3_25, f3_26, f3_27, f3_28, f3_29, f3_30, f3_37, f3_38, f3_39, f3_41, f3_43, f3_44, f3_45, f3_46, f3_49, f3_50, f3_53, f3_56, f3_59, f3_60, f3_63, v3, pm_Pv_some, pm_Ph_some, pm_B_some, pm_B_none, fd_24_0, fd_24_1, ln_25, hs]
  have a1 : (nI n < 1) = False := eq_false (nI_nlt (a := n) (b := 1) (by omega) (by omega))
  have a2 : (8 < nI n) = False := eq_false (nI_nlt (a := 8) (b := n) (by omega) (by decide))
  have a3 : nI sz + nI n = nI (sz + n) := nI_add sz n
  have a4 : (nI (sz + n) ≤ 120) = True := eq_true (nI_le (a := sz + n) (b := 120) h3 (by decide))
  simp only [a1, a2, a3, a4, if_true, if_false]
  exact V_apl24 ol orc L g bs n sz A I hs h3
theorem V_appendN24 {sz : Nat} (hs : I 24 1 = nI sz) (hz : sz ≤ 120) (h : ¬ ∃ n, 0 < n ∧ n ≤ 8 ∧ i = nI n ∧ sz + n ≤ 120) : pm_V ol orc 3 [.ref 24, .long bs, .int i] (mk A I L g) = some (some (.int (-1)), mk A I L g) := by
  simp only [f3_0, f3_1, f3_2, f3_5, f3_6, f3_8, f3_11, f3_12, f3_15, f3_16, f3_17, f3_18, f3_21, f3_22, f3_25, f3_26, f3_27, f3_28, f3_29, f3_30, f3_37, f3_38, f3_39, f3_41, f3_43, f3_44, f3_45, f3_46, f3_49, f3_50, f3_53, f3_56, f3_59, f3_60, f3_63, v3, pm_Pv_some, pm_Ph_some, pm_B_some, pm_B_none, fd_24_0, fd_24_1, ln_25, hs]
  by_cases c1 : i < 1
  · rw [if_pos c1]
  · rw [if_neg c1]
    by_cases c2 : 8 < i
    · rw [if_pos c2]
    · rw [if_neg c2]
      obtain ⟨n, h2, h1, rfl⟩ := n18 c1 c2
      have a3 : nI sz + nI n = nI (sz + n) := nI_add sz n
      rw [a3, if_neg]
      intro q
      exact h ⟨n, h2, h1, rfl, (nI_leI (b := 120) (by omega) (by decide)).mp q⟩
theorem V_empty40 : pm_V ol orc 1 [.ref 40] (mk A I L g) = some (none, mk A (sI I 40 1 0) L g) := by
  simp only [f1_0, f1_1, f1_2, f1_5, v1, pm_Pv_some, pm_Ph_some, pm_B_some, pm_B_none, fs_40_1]
theorem V_get40 : pm_V ol orc 2 [.ref 40, .int i] (mk A I L g) = some (some (.int (if 0 ≤ i ∧ i < I 40 1 ∧ i < 120 then A 41 i.toNatClampNeg else -1)), mk A I L g) := by
  simp only [f2_0, f2_1, f2_4, f2_5, f2_6, f2_9, f2_12, f2_13, f2_14, f2_17, f2_18, f2_21, f2_22, f2_25, f2_26, f2_27, f2_30, f2_31, v2, pm_Pv_some, pm_Ph_some, pm_B_some, pm_B_none, fd_40_0, fd_40_1, ln_41]
  by_cases h : 0 ≤ i ∧ i < I 40 1 ∧ i < 120
  · rw [ai_41 _ _ _ _ _ _ (inb_of h.1 (by show i < 120; exact h.2.2) (by decide))]
    simp only [f2_0, f2_1, f2_4, f2_5, f2_6, f2_9, f2_12, f2_13, f2_14, f2_17, f2_18, f2_21, f2_22, f2_25, f2_26, f2_27, f2_30, f2_31, v2, pm_Pv_some, pm_Ph_some, pm_B_some, pm_B_none]
    grind
  · grind
theorem V_put40 {sz : Nat} (hs : I 40 1 = nI sz) (hz : sz < 2 ^ 30) : pm_V ol orc 4 [.ref 40, .int v] (mk A I L g) = some (none, mk (if sz < 120 then sA A 41 sz v else A) (sI I 40 1 (nI (sz + 1))) L g) := by
  have e1 : nI sz + 1 = nI (sz + 1) := nI_1 sz
  have e2 : (120 ≤ nI sz) = (120 ≤ sz) := propext (nI_leI (a := 120) (by decide) (by omega))
  simp only [f4_0, f4_1, f4_4, f4_5, f4_8, f4_9, f4_12, f4_13, f4_16, f4_17, f4_20, f4_21, f4_22, f4_23, f4_24, f4_27, f4_28, f4_29, f4_32, v4, pm_Pv_some, pm_Ph_some, pm_B_some, pm_B_none, fd_40_0, fd_40_1, ln_41, fs_40_1, hs, e1, e2]
  by_cases h : sz < 120
  · rw [si_41 _ _ _ _ _ _ (inb_nI h (by decide)), clampN (by omega)]
    simp only [f4_0, f4_1, f4_4, f4_5, f4_8, f4_9, f4_12, f4_13, f4_16, f4_17, f4_20, f4_21, f4_22, f4_23, f4_24, f4_27, f4_28, f4_29, f4_32, v4, pm_Pv_some, pm_Ph_some, pm_B_some, pm_B_none, fd_40_1, fs_40_1, hs, e1]
    rw [if_pos h, if_neg (by omega)]
  · rw [if_neg h, if_pos (by omega)]
theorem V_apl40 : ∀ (m sz : Nat) (A I : Nat → Nat → Int32), I 40 1 = nI sz → sz + m ≤ 120 → pm_F ol orc 3 32 [(0, .ref 40), (1, .long bs), (4, .int (nI m - 1))] [] (mk A I L g) = some (some (.int (nI (sz + m))), mk (sF A 41 (apF (fun k => byC bs (nI k)) m (A 41) sz)) (sI I 40 1 (nI (sz + m))) L g) := by
  intro m
  induction m with
  | zero =>
    intro sz A I hs hm
    have e : nI 0 - 1 = -1 := by decide
    have e2 : ((-1 : Int32) < 0) = True := by decide
    simp only [e, f3_0, f3_1, f3_2, f3_5, f3_6, f3_8, f3_11, f3_12, f3_15, f3_16, f3_17, f3_18, f3_21, f3_22, f3_25, f3_26, f3_27, f3_28, f3_29, f3_30, f3_32, f3_34, f3_37, f3_38, f3_39, f3_41, f3_43, f3_44, f3_45, f3_46, f3_49, f3_50, f3_53, f3_56, f3_59, f3_60, f3_63, v3, pm_Pv_some, pm_Ph_some, pm_B_some, pm_B_none, fd_40_1, hs, apF, e2, if_true]
    rw [sF_id, Nat.add_zero, ← hs, sI_id]
  | succ m ih =>
    intro sz A I hs hm
    have e : nI (m + 1) - 1 = nI m := nI_pred m
    have e2 : (nI m < 0) = False := eq_false (nI_pos (by omega))
    have e3 : nI m + -1 = nI m - 1 := by grind
    rw [e, f3_32, f3_34]
    simp only [e2, if_false, f3_0, f3_1, f3_2, f3_5, f3_6, f3_8, f3_11, f3_12, f3_15, f3_16, f3_17, f3_18, f3_21, f3_22, f3_25, f3_26, f3_27, f3_28, f3_29, f3_30, f3_34, f3_37, f3_38, f3_39, f3_41, f3_43, f3_44, f3_45, f3_46, f3_49, f3_50, f3_53, f3_56, f3_59, f3_60, f3_63, v3, pm_Pv_some, pm_Ph_some, pm_B_some, pm_B_none, is_40, if_true]
    have hp := V_put40 ol orc A I L g (byC bs (nI m)) hs (by omega)
    rw [if_pos (by omega)] at hp
    unfold byC at hp
    simp only [hp, pm_Pv_some, pm_Ph_some, pm_B_some, pm_B_none, f3_0, f3_1, f3_2, f3_5, f3_6, f3_8, f3_11, f3_12, f3_15, f3_16, f3_17, f3_18, f3_21, f3_22, f3_25, f3_26, f3_27, f3_28, f3_29, f3_30, f3_34, f3_37, f3_38, f3_39, f3_41, f3_43, f3_44, f3_45, f3_46, f3_49, f3_50, f3_53, f3_56, f3_59, f3_60, f3_63, v3, e3]
    rw [ih (sz + 1) _ _ (sI_s _ _ _ _) (by omega)]
    rw [show sz + 1 + m = sz + (m + 1) by omega, sI_sI]
    unfold sA
    rw [sF_s, sF_sF]
    rfl
theorem V_appendY40 {sz n : Nat} (hs : I 40 1 = nI sz) (h2 : 0 < n) (h1 : n ≤ 8) (h3 : sz + n ≤ 120) : pm_V ol orc 3 [.ref 40, .long bs, .int (nI n)] (mk A I L g) = some (some (.int (nI (sz + n))), mk (sF A 41 (apF (fun k => byC bs (nI k)) n (A 41) sz)) (sI I 40 1 (nI (sz + n))) L g) := by
  simp only [f3_0, f3_1, f3_2, f3_5, f3_6, f3_8, f3_11, f3_12, f3_15, f3_16, f3_17, f3_18, f3_21, f3_22, f3_25, f3_26, f3_27, f3_28, f3_29, f3_30, f3_37, f3_38, f3_39, f3_41, f3_43, f3_44, f3_45, f3_46, f3_49, f3_50, f3_53, f3_56, f3_59, f3_60, f3_63, v3, pm_Pv_some, pm_Ph_some, pm_B_some, pm_B_none, fd_40_0, fd_40_1, ln_41, hs]
  have a1 : (nI n < 1) = False := eq_false (nI_nlt (a := n) (b := 1) (by omega) (by omega))
  have a2 : (8 < nI n) = False := eq_false (nI_nlt (a := 8) (b := n) (by omega) (by decide))
  have a3 : nI sz + nI n = nI (sz + n) := nI_add sz n
  have a4 : (nI (sz + n) ≤ 120) = True := eq_true (nI_le (a := sz + n) (b := 120) h3 (by decide))
  simp only [a1, a2, a3, a4, if_true, if_false]
  exact V_apl40 ol orc L g bs n sz A I hs h3
theorem V_appendN40 {sz : Nat} (hs : I 40 1 = nI sz) (hz : sz ≤ 120) (h : ¬ ∃ n, 0 < n ∧ n ≤ 8 ∧ i = nI n ∧ sz + n ≤ 120) : pm_V ol orc 3 [.ref 40, .long bs, .int i] (mk A I L g) = some (some (.int (-1)), mk A I L g) := by
  simp only [f3_0, f3_1, f3_2, f3_5, f3_6, f3_8, f3_11, f3_12, f3_15, f3_16, f3_17, f3_18, f3_21, f3_22, f3_25, f3_26, f3_27, f3_28, f3_29, f3_30, f3_37, f3_38, f3_39, f3_41, f3_43, f3_44, f3_45, f3_46, f3_49, f3_50, f3_53, f3_56, f3_59, f3_60, f3_63, v3, pm_Pv_some, pm_Ph_some, pm_B_some, pm_B_none, fd_40_0, fd_40_1, ln_41, hs]
  by_cases c1 : i < 1
  · rw [if_pos c1]
  · rw [if_neg c1]
    by_cases c2 : 8 < i
    · rw [if_pos c2]
    · rw [if_neg c2]
      obtain ⟨n, h2, h1, rfl⟩ := n18 c1 c2
      have a3 : nI sz + nI n = nI (sz + n) := nI_add sz n
      rw [a3, if_neg]
      intro q
      exact h ⟨n, h2, h1, rfl, (nI_leI (b := 120) (by omega) (by decide)).mp q⟩
end BYT
