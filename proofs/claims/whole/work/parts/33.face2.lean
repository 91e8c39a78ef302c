/-! the reference's rows of bytes; code, clear, table, tableAt, routine, method of both -/
theorem by_sh (b : Int64) (s : Nat) (hs : s ≤ 56) (u : UInt64) (w : Int64) (hu : u.toNat = s) (hw : (w.toBitVec.smod 64).toNat = s) : ((b.toUInt64 >>> u).toInt64).toInt32 &&& 255 = ((b >>> w) &&& 255).toInt32 := by
  have eL : (b.toUInt64 >>> u).toInt64.toBitVec = b.toBitVec >>> s := by
    apply BitVec.eq_of_toNat_eq
    show (b.toUInt64 >>> u).toNat = _
    rw [UInt64.toNat_shiftRight, hu, Nat.mod_eq_of_lt (by omega), BitVec.toNat_ushiftRight]
    rfl
  have eR : (b >>> w).toBitVec = b.toBitVec.sshiftRight s := by
    show b.toBitVec.sshiftRight' (w.toBitVec.smod 64) = _
    unfold BitVec.sshiftRight'
    rw [hw]
  have h32 : ∀ i, i < 32 → (255#32).getLsbD i = decide (i < 8) := by decide
  have h64 : ∀ i, i < 32 → (255#64).getLsbD i = decide (i < 8) := by decide
  rw [← Int32.toBitVec_inj, Int32.toBitVec_and, Int64.toBitVec_toInt32, Int64.toBitVec_toInt32, Int64.toBitVec_and, eL, eR]
  show (b.toBitVec >>> s).signExtend 32 &&& 255#32 = ((b.toBitVec.sshiftRight s) &&& 255#64).signExtend 32
  apply BitVec.eq_of_getLsbD_eq
  intro i hi
  rw [BitVec.getLsbD_and, BitVec.getLsbD_signExtend, BitVec.getLsbD_signExtend, BitVec.getLsbD_and, h32 i hi, h64 i hi, BitVec.getLsbD_ushiftRight, BitVec.getLsbD_sshiftRight]
  by_cases h8 : i < 8
  · rw [if_pos (show i < 64 by omega), if_pos (show i < 64 by omega), if_pos (show s + i < 64 by omega)]
    have : ¬ 64 ≤ i := by omega
    simp [this, Bool.and_assoc]
  · simp [h8]
    omega
theorem by_eq (b : Int64) : ∀ k, k < 8 → byC b (nI k) = byM b (nI k) := by
  intro k hk
  unfold byC byM
  rcases (show k = 0 ∨ k = 1 ∨ k = 2 ∨ k = 3 ∨ k = 4 ∨ k = 5 ∨ k = 6 ∨ k = 7 by omega) with rfl | rfl | rfl | rfl | rfl | rfl | rfl | rfl
  · exact by_sh b 0 (by decide) _ _ (by decide) (by decide)
  · exact by_sh b 8 (by decide) _ _ (by decide) (by decide)
  · exact by_sh b 16 (by decide) _ _ (by decide) (by decide)
  · exact by_sh b 24 (by decide) _ _ (by decide) (by decide)
  · exact by_sh b 32 (by decide) _ _ (by decide) (by decide)
  · exact by_sh b 40 (by decide) _ _ (by decide) (by decide)
  · exact by_sh b 48 (by decide) _ _ (by decide) (by decide)
  · exact by_sh b 56 (by decide) _ _ (by decide) (by decide)
theorem apF_eq (b1 b2 : Nat → Int32) : ∀ (m : Nat), (∀ k, k < m → b1 k = b2 k) → ∀ (f : Nat → Int32) (sz : Nat), apF b1 m f sz = apF b2 m f sz := by
  intro m
  induction m with
  | zero => intro _ f sz; rfl
  | succ m ih =>
    intro h f sz
    show apF b1 m _ _ = apF b2 m _ _
    rw [h m (by omega)]
    exact ih (fun k hk => h k (by omega)) _ _
section FC2
variable (ol : pm_O) (orc : pm_Q) (A I : Nat → Nat → Int32) (L : Nat → Int64) (g : pm_H) (i v x y z w t r : Int32) (bs : Int64)
theorem M_codel : ∀ (m sz : Nat) (A I : Nat → Nat → Int32), I 48 11 = nI sz → sz + m ≤ 48 → pm_F ol orc 124 34 [(0, .ref 48), (1, .long bs), (4, .int (nI m - 1))] [] (mk A I L g) = some (some (.int (nI (sz + m))), mk (sF A 56 (apF (fun k => byM bs (nI k)) m (A 56) sz)) (sI I 48 11 (nI (sz + m))) L g) := by
  intro m
  induction m with
  | zero =>
    intro sz A I hs hm
    have e : nI 0 - 1 = -1 := by decide
    have e2 : ((-1 : Int32) < 0) = True := by decide
    simp only [e, f124_0, f124_1, f124_2, f124_5, f124_6, f124_7, f124_10, f124_11, f124_13, f124_16, f124_17, f124_20, f124_21, f124_22, f124_24, f124_27, f124_28, f124_29, f124_30, f124_31, f124_32, f124_34, f124_36, f124_39, f124_40, f124_43, f124_44, f124_47, f124_48, f124_50, f124_52, f124_53, f124_54, f124_57, f124_58, f124_59, f124_60, f124_61, f124_62, f124_65, f124_66, f124_67, f124_70, f124_73, f124_76, f124_77, f124_80, v124, pm_Pv_some, pm_Ph_some, pm_B_some, pm_B_none, fd_48_11, hs, apF, e2, if_true]
    rw [sF_id, Nat.add_zero, ← hs, sI_id]
  | succ m ih =>
    intro sz A I hs hm
    have e : nI (m + 1) - 1 = nI m := nI_pred m
    have e2 : (nI m < 0) = False := eq_false (nI_pos (by omega))
    have e3 : nI m + -1 = nI m - 1 := by grind
    have e4 : nI sz + 1 = nI (sz + 1) := nI_1 sz
    rw [e, f124_34, f124_36]
    simp only [e2, if_false, f124_0, f124_1, f124_2, f124_5, f124_6, f124_7, f124_10, f124_11, f124_13, f124_16, f124_17, f124_20, f124_21, f124_22, f124_24, f124_27, f124_28, f124_29, f124_30, f124_31, f124_32, f124_36, f124_39, f124_40, f124_43, f124_44, f124_47, f124_48, f124_50, f124_52, f124_53, f124_54, f124_57, f124_58, f124_59, f124_60, f124_61, f124_62, f124_65, f124_66, f124_67, f124_70, f124_73, f124_76, f124_77, f124_80, v124, pm_Pv_some, pm_Ph_some, pm_B_some, pm_B_none, fd_48_10, fd_48_11, hs]
    rw [si_56 _ _ _ _ _ _ (inb_nI (by omega) (by decide)), clampN (by omega)]
    simp only [f124_0, f124_1, f124_2, f124_5, f124_6, f124_7, f124_10, f124_11, f124_13, f124_16, f124_17, f124_20, f124_21, f124_22, f124_24, f124_27, f124_28, f124_29, f124_30, f124_31, f124_32, f124_36, f124_39, f124_40, f124_43, f124_44, f124_47, f124_48, f124_50, f124_52, f124_53, f124_54, f124_57, f124_58, f124_59, f124_60, f124_61, f124_62, f124_65, f124_66, f124_67, f124_70, f124_73, f124_76, f124_77, f124_80, v124, pm_Pv_some, pm_Ph_some, pm_B_some, pm_B_none, fd_48_11, fs_48_11, hs, e3, e4]
    rw [ih (sz + 1) _ _ (sI_s _ _ _ _) (by omega)]
    rw [show sz + 1 + m = sz + (m + 1) by omega, sI_sI]
    unfold sA
    rw [sF_s, sF_sF]
    rfl
theorem M_codeY {sz n : Nat} (hs : I 48 11 = nI sz) (h2 : 0 < n) (h1 : n ≤ 8) (h3 : sz + n ≤ 48) : pm_V ol orc 124 [.ref 48, .long bs, .int (nI n)] (mk A I L g) = some (some (.int (nI (sz + n))), mk (sF A 56 (apF (fun k => byM bs (nI k)) n (A 56) sz)) (sI (sI I 48 0 0) 48 11 (nI (sz + n))) L g) := by
  have hs2 : sI I 48 0 0 48 11 = nI sz := by rw [sI_n _ _ (by decide)]; exact hs
  simp only [f124_0, f124_1, f124_2, f124_5, f124_6, f124_7, f124_10, f124_11, f124_13, f124_16, f124_17, f124_20, f124_21, f124_22, f124_24, f124_27, f124_28, f124_29, f124_30, f124_31, f124_32, f124_39, f124_40, f124_43, f124_44, f124_47, f124_48, f124_50, f124_52, f124_53, f124_54, f124_57, f124_58, f124_59, f124_60, f124_61, f124_62, f124_65, f124_66, f124_67, f124_70, f124_73, f124_76, f124_77, f124_80, v124, pm_Pv_some, pm_Ph_some, pm_B_some, pm_B_none, fs_48_0, fd_48_11, hs2]
  have a0 : (nI n = 0) = False := eq_false (nI_ne0 h2 (by omega))
  have a9 : (¬ nI n = 0) = True := by rw [a0]; simp
  have a8 : (nI n < 0) = False := eq_false (nI_pos (by omega))
  have a1 : (nI n < 1) = False := eq_false (nI_nlt (a := n) (b := 1) (by omega) (by omega))
  have a2 : (8 < nI n) = False := eq_false (nI_nlt (a := 8) (b := n) (by omega) (by decide))
  have a3 : nI sz + nI n = nI (sz + n) := nI_add sz n
  have a4 : (nI (sz + n) ≤ 48) = True := eq_true (nI_le (a := sz + n) (b := 48) h3 (by decide))
  simp only [a9, a8, a1, a2, a3, a4, if_true, if_false]
  exact M_codel ol orc L g bs n sz A _ hs2 h3
theorem M_codeN {sz : Nat} (hs : I 48 11 = nI sz) (hz : sz ≤ 48) (h : ¬ ∃ n, 0 < n ∧ n ≤ 8 ∧ i = nI n ∧ sz + n ≤ 48) : pm_V ol orc 124 [.ref 48, .long bs, .int i] (mk A I L g) = some (some (.int (-1)), mk A (sI I 48 0 0) L g) := by
  have hs2 : sI I 48 0 0 48 11 = nI sz := by rw [sI_n _ _ (by decide)]; exact hs
  simp only [f124_0, f124_1, f124_2, f124_5, f124_6, f124_7, f124_10, f124_11, f124_13, f124_16, f124_17, f124_20, f124_21, f124_22, f124_24, f124_27, f124_28, f124_29, f124_30, f124_31, f124_32, f124_39, f124_40, f124_43, f124_44, f124_47, f124_48, f124_50, f124_52, f124_53, f124_54, f124_57, f124_58, f124_59, f124_60, f124_61, f124_62, f124_65, f124_66, f124_67, f124_70, f124_73, f124_76, f124_77, f124_80, v124, pm_Pv_some, pm_Ph_some, pm_B_some, pm_B_none, fs_48_0, fd_48_11, hs2]
  by_cases c1 : i < 1
  · rw [if_pos c1]
  · rw [if_neg c1]
    by_cases c2 : 8 < i
    · rw [if_pos c2]
    · rw [if_neg c2]
      obtain ⟨n, h2, h1, rfl⟩ := n18 c1 c2
      have a3 : nI sz + nI n = nI (sz + n) := nI_add sz n
      rw [a3, if_neg]
      intro q
      exact h ⟨n, h2, h1, rfl, (nI_leI (b := 48) (by omega) (by decide)).mp q⟩
theorem M_tablel : ∀ (m sz : Nat) (A I : Nat → Nat → Int32), I 48 13 = nI sz → sz + m ≤ 120 → pm_F ol orc 126 44 [(0, .ref 48), (1, .long bs), (4, .int (nI m - 1))] [] (mk A I L g) = some (some (.int (nI (sz + m))), mk (sF A 57 (apF (fun k => byM bs (nI k)) m (A 57) sz)) (sI I 48 13 (nI (sz + m))) L g) := by
  intro m
  induction m with
  | zero =>
    intro sz A I hs hm
    have e : nI 0 - 1 = -1 := by decide
    have e2 : ((-1 : Int32) < 0) = True := by decide
    simp only [e, f126_0, f126_1, f126_2, f126_5, f126_6, f126_9, f126_10, f126_11, f126_14, f126_15, f126_16, f126_17, f126_20, f126_21, f126_23, f126_26, f126_27, f126_30, f126_31, f126_32, f126_34, f126_37, f126_38, f126_39, f126_40, f126_41, f126_42, f126_44, f126_46, f126_49, f126_50, f126_53, f126_54, f126_57, f126_58, f126_60, f126_62, f126_63, f126_64, f126_67, f126_68, f126_69, f126_70, f126_71, f126_72, f126_75, f126_76, f126_77, f126_80, f126_83, f126_86, f126_87, f126_90, v126, pm_Pv_some, pm_Ph_some, pm_B_some, pm_B_none, fd_48_13, hs, apF, e2, if_true]
    rw [sF_id, Nat.add_zero, ← hs, sI_id]
  | succ m ih =>
    intro sz A I hs hm
    have e : nI (m + 1) - 1 = nI m := nI_pred m
    have e2 : (nI m < 0) = False := eq_false (nI_pos (by omega))
    have e3 : nI m + -1 = nI m - 1 := by grind
    have e4 : nI sz + 1 = nI (sz + 1) := nI_1 sz
    rw [e, f126_44, f126_46]
    simp only [e2, if_false, f126_0, f126_1, f126_2, f126_5, f126_6, f126_9, f126_10, f126_11, f126_14, f126_15, f126_16, f126_17, f126_20, f126_21, f126_23, f126_26, f126_27, f126_30, f126_31, f126_32, f126_34, f126_37, f126_38, f126_39, f126_40, f126_41, f126_42, f126_46, f126_49, f126_50, f126_53, f126_54, f126_57, f126_58, f126_60, f126_62, f126_63, f126_64, f126_67, f126_68, f126_69, f126_70, f126_71, f126_72, f126_75, f126_76, f126_77, f126_80, f126_83, f126_86, f126_87, f126_90, v126, pm_Pv_some, pm_Ph_some, pm_B_some, pm_B_none, fd_48_12, fd_48_13, hs]
    rw [si_57 _ _ _ _ _ _ (inb_nI (by omega) (by decide)), clampN (by omega)]
    simp only [f126_0, f126_1, f126_2, f126_5, f126_6, f126_9, f126_10, f126_11, f126_14, f126_15, f126_16, f126_17, f126_20, f126_21, f126_23, f126_26, f126_27, f126_30, f126_31, f126_32, f126_34, f126_37, f126_38, f126_39, f126_40, f126_41, f126_42, f126_46, f126_49, f126_50, f126_53, f126_54, f126_57, f126_58, f126_60, f126_62, f126_63, f126_64, f126_67, f126_68, f126_69, f126_70, f126_71, f126_72, f126_75, f126_76, f126_77, f126_80, f126_83, f126_86, f126_87, f126_90, v126, pm_Pv_some, pm_Ph_some, pm_B_some, pm_B_none, fd_48_13, fs_48_13, hs, e3, e4]
    rw [ih (sz + 1) _ _ (sI_s _ _ _ _) (by omega)]
    rw [show sz + 1 + m = sz + (m + 1) by omega, sI_sI]
    unfold sA
    rw [sF_s, sF_sF]
    rfl
theorem M_tableY {sz n : Nat} (hs : I 48 13 = nI sz) (h2 : 0 < n) (h1 : n ≤ 8) (h3 : sz + n ≤ 120) : pm_V ol orc 126 [.ref 48, .long bs, .int (nI n)] (mk A I L g) = some (some (.int (nI (sz + n))), mk (sF A 57 (apF (fun k => byM bs (nI k)) n (A 57) sz)) (sI (sI I 48 0 0) 48 13 (nI (sz + n))) L g) := by
  have hs2 : sI I 48 0 0 48 13 = nI sz := by rw [sI_n _ _ (by decide)]; exact hs
  simp only [f126_0, f126_1, f126_2, f126_5, f126_6, f126_9, f126_10, f126_11, f126_14, f126_15, f126_16, f126_17, f126_20, f126_21, f126_23, f126_26, f126_27, f126_30, f126_31, f126_32, f126_34, f126_37, f126_38, f126_39, f126_40, f126_41, f126_42, f126_49, f126_50, f126_53, f126_54, f126_57, f126_58, f126_60, f126_62, f126_63, f126_64, f126_67, f126_68, f126_69, f126_70, f126_71, f126_72, f126_75, f126_76, f126_77, f126_80, f126_83, f126_86, f126_87, f126_90, v126, pm_Pv_some, pm_Ph_some, pm_B_some, pm_B_none, fs_48_0, fd_48_13, hs2]
  have a0 : (nI n = 0) = False := eq_false (nI_ne0 h2 (by omega))
  have a9 : (¬ nI n = 0) = True := by rw [a0]; simp
  have a8 : (nI n < 0) = False := eq_false (nI_pos (by omega))
  have a1 : (nI n < 1) = False := eq_false (nI_nlt (a := n) (b := 1) (by omega) (by omega))
  have a2 : (8 < nI n) = False := eq_false (nI_nlt (a := 8) (b := n) (by omega) (by decide))
  have a3 : nI sz + nI n = nI (sz + n) := nI_add sz n
  have a4 : (nI (sz + n) ≤ 120) = True := eq_true (nI_le (a := sz + n) (b := 120) h3 (by decide))
  simp only [a9, a8, a1, a2, a3, a4, if_true, if_false]
  exact M_tablel ol orc L g bs n sz A _ hs2 h3
theorem M_tableN {sz : Nat} (hs : I 48 13 = nI sz) (hz : sz ≤ 120) (h0 : ¬ i = 0) (h : ¬ ∃ n, 0 < n ∧ n ≤ 8 ∧ i = nI n ∧ sz + n ≤ 120) : pm_V ol orc 126 [.ref 48, .long bs, .int i] (mk A I L g) = some (some (.int (-1)), mk A (sI I 48 0 0) L g) := by
  have hs2 : sI I 48 0 0 48 13 = nI sz := by rw [sI_n _ _ (by decide)]; exact hs
  simp only [f126_0, f126_1, f126_2, f126_5, f126_6, f126_9, f126_10, f126_11, f126_14, f126_15, f126_16, f126_17, f126_20, f126_21, f126_23, f126_26, f126_27, f126_30, f126_31, f126_32, f126_34, f126_37, f126_38, f126_39, f126_40, f126_41, f126_42, f126_49, f126_50, f126_53, f126_54, f126_57, f126_58, f126_60, f126_62, f126_63, f126_64, f126_67, f126_68, f126_69, f126_70, f126_71, f126_72, f126_75, f126_76, f126_77, f126_80, f126_83, f126_86, f126_87, f126_90, v126, pm_Pv_some, pm_Ph_some, pm_B_some, pm_B_none, fs_48_0, fd_48_13, hs2]
  rw [if_pos h0]
  by_cases c1 : i < 0
  · rw [if_pos c1]
  · rw [if_neg c1]
    by_cases c2 : 8 < i
    · rw [if_pos c2]
    · rw [if_neg c2]
      obtain ⟨n, h2, h1, rfl⟩ := n18 (by grind) c2
      have a3 : nI sz + nI n = nI (sz + n) := nI_add sz n
      rw [a3, if_neg]
      intro q
      exact h ⟨n, h2, h1, rfl, (nI_leI (b := 120) (by omega) (by decide)).mp q⟩
theorem M_table0 : pm_V ol orc 126 [.ref 48, .long bs, .int 0] (mk A I L g) = some (some (.int 0), mk A (sI (sI I 48 0 0) 48 13 0) L g) := by
  simp only [f126_0, f126_1, f126_2, f126_5, f126_6, f126_9, f126_10, f126_11, f126_14, f126_15, f126_16, f126_17, f126_20, f126_21, f126_23, f126_26, f126_27, f126_30, f126_31, f126_32, f126_34, f126_37, f126_38, f126_39, f126_40, f126_41, f126_42, f126_49, f126_50, f126_53, f126_54, f126_57, f126_58, f126_60, f126_62, f126_63, f126_64, f126_67, f126_68, f126_69, f126_70, f126_71, f126_72, f126_75, f126_76, f126_77, f126_80, f126_83, f126_86, f126_87, f126_90, v126, pm_Pv_some, pm_Ph_some, pm_B_some, pm_B_none, fs_48_0, fs_48_13]
  simp
theorem V_code (hV : Option (Option Value × pm_H)) (h : pm_V ol orc 3 [.ref 21, .long bs, .int i] (mk A I L g) = hV) (hv : ∃ (v : Int32) (h' : pm_H), hV = some (some (.int v), h')) : pm_V ol orc 103 [.ref 0, .long bs, .int i] (mk A I L g) = hV := by
  obtain ⟨v, h', rfl⟩ := hv
  simp only [f103_0, f103_1, f103_4, f103_7, f103_8, f103_9, f103_12, v103, pm_Pv_some, pm_Ph_some, pm_B_some, pm_B_none, fd_0_1, fd_20_0, is_21, if_true, h]
theorem V_table (h0 : ¬ i = 0) (hV : Option (Option Value × pm_H)) (h : pm_V ol orc 3 [.ref 24, .long bs, .int i] (mk A I L g) = hV) (hv : ∃ (v : Int32) (h' : pm_H), hV = some (some (.int v), h')) : pm_V ol orc 105 [.ref 0, .long bs, .int i] (mk A I L g) = hV := by
  obtain ⟨v, h', rfl⟩ := hv
  simp only [f105_0, f105_1, f105_4, f105_5, f105_8, f105_11, f105_12, f105_13, f105_14, f105_17, f105_18, f105_19, f105_22, v105, pm_Pv_some, pm_Ph_some, pm_B_some, pm_B_none, fd_0_2, is_24, if_true, h, h0, not_false_eq_true]
theorem V_table0 : pm_V ol orc 105 [.ref 0, .long bs, .int 0] (mk A I L g) = some (some (.int 0), mk A (sI I 24 1 0) L g) := by
  simp only [f105_0, f105_1, f105_4, f105_5, f105_8, f105_11, f105_12, f105_13, f105_14, f105_17, f105_18, f105_19, f105_22, v105, pm_Pv_some, pm_Ph_some, pm_B_some, pm_B_none, fd_0_2, is_24, if_true, V_empty24, not_true_eq_false, if_false]
theorem V_clear : pm_V ol orc 104 [.ref 0] (mk A I L g) = some (some (.int (I 21 1)), mk A (sI I 21 1 0) L g) := by
  simp only [f104_0, f104_1, f104_4, f104_7, f104_10, f104_11, f104_12, f104_15, f104_18, f104_21, f104_22, v104, pm_Pv_some, pm_Ph_some, pm_B_some, pm_B_none, fd_0_1, fd_20_0, fd_21_1, is_21, if_true, V_empty21]
theorem M_clear : pm_V ol orc 125 [.ref 48] (mk A I L g) = some (some (.int (I 48 11)), mk A (sI (sI I 48 0 0) 48 11 0) L g) := by
  simp only [f125_0, f125_1, f125_2, f125_5, f125_6, f125_9, f125_10, f125_11, f125_12, f125_15, f125_16, v125, pm_Pv_some, pm_Ph_some, pm_B_some, pm_B_none, fs_48_0, fd_48_11, fs_48_11]
  rw [sI_n _ _ (by decide)]
theorem V_tableAt : pm_V ol orc 106 [.ref 0, .int i] (mk A I L g) = some (some (.int (if 0 ≤ i ∧ i < I 24 1 ∧ i < 120 then A 25 i.toNatClampNeg else -1)), mk A I L g) := by
  simp only [f106_0, f106_1, f106_4, f106_5, f106_8, v106, pm_Pv_some, pm_Ph_some, pm_B_some, pm_B_none, fd_0_2, is_24, if_true, V_get24]
theorem M_tableAt (hs : I 48 13 ≤ 120) : pm_V ol orc 127 [.ref 48, .int i] (mk A I L g) = some (some (.int (if 0 ≤ i ∧ i < I 48 13 then A 57 i.toNatClampNeg else -1)), mk A (sI I 48 0 0) L g) := by
  simp only [f127_0, f127_1, f127_2, f127_5, f127_6, f127_9, f127_10, f127_11, f127_14, f127_17, f127_18, f127_21, f127_22, f127_25, f127_26, f127_27, v127, pm_Pv_some, pm_Ph_some, pm_B_some, pm_B_none, fs_48_0, fd_48_12, fd_48_13, sI_n I (a := 48) (j := 0) (b := 48) (i := 13) 0 (by decide)]
  by_cases h : 0 ≤ i ∧ i < I 48 13
  · rw [ai_57 _ _ _ _ _ _ (inb_of h.1 (by show i < 120; grind) (by decide))]
    simp only [f127_0, f127_1, f127_2, f127_5, f127_6, f127_9, f127_10, f127_11, f127_14, f127_17, f127_18, f127_21, f127_22, f127_25, f127_26, f127_27, v127, pm_Pv_some, pm_Ph_some, pm_B_some, pm_B_none]
    grind
  · grind
theorem V_method : pm_V ol orc 102 [.ref 0, .int x, .int y, .int z, .int w, .int t] (mk A I L g) = if sgOK x y z w t then some (some (.int 1), mk (sA (sA (sA (sA A 7 0 x) 7 1 y) 7 2 z) 7 3 w) (sI (sI I 6 1 (sgN x y z w)) 6 2 t) L g) else some (some (.int 0), mk A I L g) := by
  simp only [f102_0, f102_1, f102_4, f102_7, f102_8, f102_9, f102_10, f102_12, f102_14, f102_17, v102, pm_Pv_some, pm_Ph_some, pm_B_some, pm_B_none, fd_0_0, fd_1_4, is_6, if_true, V_set6, pm_B_ite]
  grind
theorem M_method : pm_V ol orc 123 [.ref 48, .int x, .int y, .int z, .int w, .int t] (mk A I L g) = if sgOK x y z w t then some (some (.int 1), mk (sA (sA (sA (sA A 55 0 x) 55 1 y) 55 2 z) 55 3 w) (sI (sI (sI I 48 0 0) 48 8 (sgN x y z w)) 48 9 t) L g) else some (some (.int 0), mk A (sI I 48 0 0) L g) := by
  have e0 : inb 0 4 := inb_nI (j := 0) (by decide) (by decide)
  have e1 : inb 1 4 := inb_nI (j := 1) (by decide) (by decide)
  have e2 : inb 2 4 := inb_nI (j := 2) (by decide) (by decide)
  have e3 : inb 3 4 := inb_nI (j := 3) (by decide) (by decide)
  have k0 : (0 : Int32).toNatClampNeg = 0 := by decide
  have k1 : (1 : Int32).toNatClampNeg = 1 := by decide
  have k2 : (2 : Int32).toNatClampNeg = 2 := by decide
  have k3 : (3 : Int32).toNatClampNeg = 3 := by decide
  simp only [f123_0, f123_1, f123_2, f123_5, f123_6, f123_7, f123_10, f123_13, f123_14, f123_15, f123_18, f123_21, f123_22, f123_23, f123_26, f123_29, f123_30, f123_32, f123_35, f123_38, f123_40, f123_43, f123_45, f123_48, f123_51, f123_52, f123_53, f123_54, f123_57, f123_58, f123_59, f123_60, f123_61, f123_64, f123_65, f123_66, f123_67, f123_68, f123_71, f123_72, f123_73, f123_74, f123_75, f123_78, f123_79, f123_81, f123_82, f123_83, f123_84, f123_85, f123_88, f123_89, f123_92, f123_93, f123_94, f123_97, f123_98, f123_101, f123_102, f123_103, f123_106, f123_107, f123_110, f123_112, f123_113, f123_116, f123_117, f123_120, f123_121, f123_124, f123_125, f123_127, f123_130, f123_131, v123, pm_Pv_some, pm_Ph_some, pm_B_some, pm_B_none, fs_48_0, fd_48_7, fs_48_8, fs_48_9, M_isKnown, M_mayBe, b1_0, si_55 _ _ _ _ _ _ e0, si_55 _ _ _ _ _ _ e1, si_55 _ _ _ _ _ _ e2, si_55 _ _ _ _ _ _ e3, k0, k1, k2, k3]
  by_cases h : sgOK x y z w t
  · rw [if_pos h]
    grind
  · rw [if_neg h]
    grind
theorem V_routineN (h : ¬ (0 ≤ r ∧ r < 6)) : pm_V ol orc 101 [.ref 0, .int r, .int x, .int y, .int z, .int t] (mk A I L g) = some (some (.int 0), mk A I L g) := by
  simp only [f101_0, f101_1, f101_4, f101_5, f101_7, f101_10, f101_11, f101_12, f101_13, f101_16, f101_19, f101_20, f101_21, f101_22, f101_23, f101_25, f101_26, f101_28, f101_31, v101]
  grind
theorem M_routineN (h : ¬ (0 ≤ r ∧ r < 6)) : pm_V ol orc 122 [.ref 48, .int r, .int x, .int y, .int z, .int t] (mk A I L g) = some (some (.int 0), mk A (sI I 48 0 0) L g) := by
  simp only [f122_0, f122_1, f122_2, f122_5, f122_6, f122_9, f122_10, f122_11, f122_14, f122_15, f122_16, f122_19, f122_22, f122_23, f122_24, f122_27, f122_30, f122_31, f122_33, f122_36, f122_39, f122_41, f122_44, f122_46, f122_49, f122_52, f122_53, f122_54, f122_55, f122_58, f122_59, f122_60, f122_61, f122_62, f122_63, f122_64, f122_67, f122_68, f122_69, f122_70, f122_71, f122_72, f122_73, f122_74, f122_75, f122_78, f122_79, f122_80, f122_81, f122_82, f122_83, f122_85, f122_86, f122_87, f122_90, f122_91, f122_92, f122_93, f122_96, f122_97, f122_100, f122_101, f122_102, f122_105, f122_106, f122_109, f122_111, f122_112, f122_115, f122_116, f122_119, f122_120, f122_121, f122_122, f122_125, f122_126, f122_128, f122_129, f122_130, v122, pm_Pv_some, pm_Ph_some, pm_B_some, pm_B_none, fs_48_0]
  grind
theorem V_routine0 : pm_V ol orc 101 [.ref 0, .int 0, .int x, .int y, .int z, .int t] (mk A I L g) = if sgOK x y z (-1) t then some (some (.int 1), mk (sA (sA (sA (sA A 9 0 x) 9 1 y) 9 2 z) 9 3 (-1)) (sI (sI I 8 1 (sgN x y z (-1))) 8 2 t) L g) else some (some (.int 0), mk A I L g) := by
  have ei : inb 0 6 := inb_nI (j := 0) (by decide) (by decide)
  have eq_ : va_rf (mk_q (0 : Int32).toNatClampNeg) = .ref 8 := by decide
  have c1 : ((0 : Int32) < 0) = False := by decide
  have c2 : ((6 : Int32) ≤ 0) = False := by decide
  simp only [f101_0, f101_1, f101_4, f101_5, f101_7, f101_10, f101_11, f101_12, f101_13, f101_16, f101_19, f101_20, f101_21, f101_22, f101_23, f101_25, f101_26, f101_28, f101_31, v101, pm_Pv_some, pm_Ph_some, pm_B_some, pm_B_none, fd_0_0, fd_1_3, aq_5 _ _ _ _ _ ei, eq_, c1, c2, if_false, is_8, if_true, V_set8, pm_B_ite]
  grind
theorem M_routine0 : pm_V ol orc 122 [.ref 48, .int 0, .int x, .int y, .int z, .int t] (mk A I L g) = if sgOK x y z (-1) t then some (some (.int 1), mk (sA (sA (sA (sA (sA A 52 0 x) 52 1 y) 52 2 z) 53 0 (sgN x y z (-1))) 54 0 t) (sI I 48 0 0) L g) else some (some (.int 0), mk A (sI I 48 0 0) L g) := by
  have e0 : inb 0 18 := inb_nI (j := 0) (by decide) (by decide)
  have e1 : inb 1 18 := inb_nI (j := 1) (by decide) (by decide)
  have e2 : inb 2 18 := inb_nI (j := 2) (by decide) (by decide)
  have e3 : inb 0 6 := inb_nI (j := 0) (by decide) (by decide)
  have m0 : (3 : Int32) * 0 = 0 := by decide
  have m1 : (0 : Int32) + 1 = 1 := by decide
  have m2 : (0 : Int32) + 2 = 2 := by decide
  have k0 : (0 : Int32).toNatClampNeg = 0 := by decide
  have k1 : (1 : Int32).toNatClampNeg = 1 := by decide
  have k2 : (2 : Int32).toNatClampNeg = 2 := by decide
  have k3 : (0 : Int32).toNatClampNeg = 0 := by decide
  have c1 : ((0 : Int32) < 0) = False := by decide
  have c2 : ((5 : Int32) < 0) = False := by decide
  simp only [f122_0, f122_1, f122_2, f122_5, f122_6, f122_9, f122_10, f122_11, f122_14, f122_15, f122_16, f122_19, f122_22, f122_23, f122_24, f122_27, f122_30, f122_31, f122_33, f122_36, f122_39, f122_41, f122_44, f122_46, f122_49, f122_52, f122_53, f122_54, f122_55, f122_58, f122_59, f122_60, f122_61, f122_62, f122_63, f122_64, f122_67, f122_68, f122_69, f122_70, f122_71, f122_72, f122_73, f122_74, f122_75, f122_78, f122_79, f122_80, f122_81, f122_82, f122_83, f122_85, f122_86, f122_87, f122_90, f122_91, f122_92, f122_93, f122_96, f122_97, f122_100, f122_101, f122_102, f122_105, f122_106, f122_109, f122_111, f122_112, f122_115, f122_116, f122_119, f122_120, f122_121, f122_122, f122_125, f122_126, f122_128, f122_129, f122_130, v122, pm_Pv_some, pm_Ph_some, pm_B_some, pm_B_none, fs_48_0, fd_48_4, fd_48_5, fd_48_6, M_isKnown, M_mayBe, b1_0, m0, m1, m2, si_52 _ _ _ _ _ _ e0, si_52 _ _ _ _ _ _ e1, si_52 _ _ _ _ _ _ e2, si_53 _ _ _ _ _ _ e3, si_54 _ _ _ _ _ _ e3, k0, k1, k2, k3, c1, c2, if_false]
  by_cases h : sgOK x y z (-1) t
  · rw [if_pos h]
    grind
  · rw [if_neg h]
    grind
theorem V_routine1 : pm_V ol orc 101 [.ref 0, .int 1, .int x, .int y, .int z, .int t] (mk A I L g) = if sgOK x y z (-1) t then some (some (.int 1), mk (sA (sA (sA (sA A 11 0 x) 11 1 y) 11 2 z) 11 3 (-1)) (sI (sI I 10 1 (sgN x y z (-1))) 10 2 t) L g) else some (some (.int 0), mk A I L g) := by
  have ei : inb 1 6 := inb_nI (j := 1) (by decide) (by decide)
  have eq_ : va_rf (mk_q (1 : Int32).toNatClampNeg) = .ref 10 := by decide
  have c1 : ((1 : Int32) < 0) = False := by decide
  have c2 : ((6 : Int32) ≤ 1) = False := by decide
  simp only [f101_0, f101_1, f101_4, f101_5, f101_7, f101_10, f101_11, f101_12, f101_13, f101_16, f101_19, f101_20, f101_21, f101_22, f101_23, f101_25, f101_26, f101_28, f101_31, v101, pm_Pv_some, pm_Ph_some, pm_B_some, pm_B_none, fd_0_0, fd_1_3, aq_5 _ _ _ _ _ ei, eq_, c1, c2, if_false, is_10, if_true, V_set10, pm_B_ite]
  grind
theorem M_routine1 : pm_V ol orc 122 [.ref 48, .int 1, .int x, .int y, .int z, .int t] (mk A I L g) = if sgOK x y z (-1) t then some (some (.int 1), mk (sA (sA (sA (sA (sA A 52 3 x) 52 4 y) 52 5 z) 53 1 (sgN x y z (-1))) 54 1 t) (sI I 48 0 0) L g) else some (some (.int 0), mk A (sI I 48 0 0) L g) := by
  have e0 : inb 3 18 := inb_nI (j := 3) (by decide) (by decide)
  have e1 : inb 4 18 := inb_nI (j := 4) (by decide) (by decide)
  have e2 : inb 5 18 := inb_nI (j := 5) (by decide) (by decide)
  have e3 : inb 1 6 := inb_nI (j := 1) (by decide) (by decide)
  have m0 : (3 : Int32) * 1 = 3 := by decide
  have m1 : (3 : Int32) + 1 = 4 := by decide
  have m2 : (3 : Int32) + 2 = 5 := by decide
  have k0 : (3 : Int32).toNatClampNeg = 3 := by decide
  have k1 : (4 : Int32).toNatClampNeg = 4 := by decide
  have k2 : (5 : Int32).toNatClampNeg = 5 := by decide
  have k3 : (1 : Int32).toNatClampNeg = 1 := by decide
  have c1 : ((1 : Int32) < 0) = False := by decide
  have c2 : ((5 : Int32) < 1) = False := by decide
  simp only [f122_0, f122_1, f122_2, f122_5, f122_6, f122_9, f122_10, f122_11, f122_14, f122_15, f122_16, f122_19, f122_22, f122_23, f122_24, f122_27, f122_30, f122_31, f122_33, f122_36, f122_39, f122_41, f122_44, f122_46, f122_49, f122_52, f122_53, f122_54, f122_55, f122_58, f122_59, f122_60, f122_61, f122_62, f122_63, f122_64, f122_67, f122_68, f122_69, f122_70, f122_71, f122_72, f122_73, f122_74, f122_75, f122_78, f122_79, f122_80, f122_81, f122_82, f122_83, f122_85, f122_86, f122_87, f122_90, f122_91, f122_92, f122_93, f122_96, f122_97, f122_100, f122_101, f122_102, f122_105, f122_106, f122_109, f122_111, f122_112, f122_115, f122_116, f122_119, f122_120, f122_121, f122_122, f122_125, f122_126, f122_128, f122_129, f122_130, v122, pm_Pv_some, pm_Ph_some, pm_B_some, pm_B_none, fs_48_0, fd_48_4, fd_48_5, fd_48_6, M_isKnown, M_mayBe, b1_0, m0, m1, m2, si_52 _ _ _ _ _ _ e0, si_52 _ _ _ _ _ _ e1, si_52 _ _ _ _ _ _ e2, si_53 _ _ _ _ _ _ e3, si_54 _ _ _ _ _ _ e3, k0, k1, k2, k3, c1, c2, if_false]
  by_cases h : sgOK x y z (-1) t
  · rw [if_pos h]
    grind
  · rw [if_neg h]
    grind
theorem V_routine2 : pm_V ol orc 101 [.ref 0, .int 2, .int x, .int y, .int z, .int t] (mk A I L g) = if sgOK x y z (-1) t then some (some (.int 1), mk (sA (sA (sA (sA A 13 0 x) 13 1 y) 13 2 z) 13 3 (-1)) (sI (sI I 12 1 (sgN x y z (-1))) 12 2 t) L g) else some (some (.int 0), mk A I L g) := by
  have ei : inb 2 6 := inb_nI (j := 2) (by decide) (by decide)
  have eq_ : va_rf (mk_q (2 : Int32).toNatClampNeg) = .ref 12 := by decide
  have c1 : ((2 : Int32) < 0) = False := by decide
  have c2 : ((6 : Int32) ≤ 2) = False := by decide
  simp only [f101_0, f101_1, f101_4, f101_5, f101_7, f101_10, f101_11, f101_12, f101_13, f101_16, f101_19, f101_20, f101_21, f101_22, f101_23, f101_25, f101_26, f101_28, f101_31, v101, pm_Pv_some, pm_Ph_some, pm_B_some, pm_B_none, fd_0_0, fd_1_3, aq_5 _ _ _ _ _ ei, eq_, c1, c2, if_false, is_12, if_true, V_set12, pm_B_ite]
  grind
theorem M_routine2 : pm_V ol orc 122 [.ref 48, .int 2, .int x, .int y, .int z, .int t] (mk A I L g) = if sgOK x y z (-1) t then some (some (.int 1), mk (sA (sA (sA (sA (sA A 52 6 x) 52 7 y) 52 8 z) 53 2 (sgN x y z (-1))) 54 2 t) (sI I 48 0 0) L g) else some (some (.int 0), mk A (sI I 48 0 0) L g) := by
  have e0 : inb 6 18 := inb_nI (j := 6) (by decide) (by decide)
  have e1 : inb 7 18 := inb_nI (j := 7) (by decide) (by decide)
  have e2 : inb 8 18 := inb_nI (j := 8) (by decide) (by decide)
  have e3 : inb 2 6 := inb_nI (j := 2) (by decide) (by decide)
  have m0 : (3 : Int32) * 2 = 6 := by decide
  have m1 : (6 : Int32) + 1 = 7 := by decide
  have m2 : (6 : Int32) + 2 = 8 := by decide
  have k0 : (6 : Int32).toNatClampNeg = 6 := by decide
  have k1 : (7 : Int32).toNatClampNeg = 7 := by decide
  have k2 : (8 : Int32).toNatClampNeg = 8 := by decide
  have k3 : (2 : Int32).toNatClampNeg = 2 := by decide
  have c1 : ((2 : Int32) < 0) = False := by decide
  have c2 : ((5 : Int32) < 2) = False := by decide
  simp only [f122_0, f122_1, f122_2, f122_5, f122_6, f122_9, f122_10, f122_11, f122_14, f122_15, f122_16, f122_19, f122_22, f122_23, f122_24, f122_27, f122_30, f122_31, f122_33, f122_36, f122_39, f122_41, f122_44, f122_46, f122_49, f122_52, f122_53, f122_54, f122_55, f122_58, f122_59, f122_60, f122_61, f122_62, f122_63, f122_64, f122_67, f122_68, f122_69, f122_70, f122_71, f122_72, f122_73, f122_74, f122_75, f122_78, f122_79, f122_80, f122_81, f122_82, f122_83, f122_85, f122_86, f122_87, f122_90, f122_91, f122_92, f122_93, f122_96, f122_97, f122_100, f122_101, f122_102, f122_105, f122_106, f122_109, f122_111, f122_112, f122_115, f122_116, f122_119, f122_120, f122_121, f122_122, f122_125, f122_126, f122_128, f122_129, f122_130, v122, pm_Pv_some, pm_Ph_some, pm_B_some, pm_B_none, fs_48_0, fd_48_4, fd_48_5, fd_48_6, M_isKnown, M_mayBe, b1_0, m0, m1, m2, si_52 _ _ _ _ _ _ e0, si_52 _ _ _ _ _ _ e1, si_52 _ _ _ _ _ _ e2, si_53 _ _ _ _ _ _ e3, si_54 _ _ _ _ _ _ e3, k0, k1, k2, k3, c1, c2, if_false]
  by_cases h : sgOK x y z (-1) t
  · rw [if_pos h]
    grind
  · rw [if_neg h]
    grind
theorem V_routine3 : pm_V ol orc 101 [.ref 0, .int 3, .int x, .int y, .int z, .int t] (mk A I L g) = if sgOK x y z (-1) t then some (some (.int 1), mk (sA (sA (sA (sA A 15 0 x) 15 1 y) 15 2 z) 15 3 (-1)) (sI (sI I 14 1 (sgN x y z (-1))) 14 2 t) L g) else some (some (.int 0), mk A I L g) := by
  have ei : inb 3 6 := inb_nI (j := 3) (by decide) (by decide)
  have eq_ : va_rf (mk_q (3 : Int32).toNatClampNeg) = .ref 14 := by decide
  have c1 : ((3 : Int32) < 0) = False := by decide
  have c2 : ((6 : Int32) ≤ 3) = False := by decide
  simp only [f101_0, f101_1, f101_4, f101_5, f101_7, f101_10, f101_11, f101_12, f101_13, f101_16, f101_19, f101_20, f101_21, f101_22, f101_23, f101_25, f101_26, f101_28, f101_31, v101, pm_Pv_some, pm_Ph_some, pm_B_some, pm_B_none, fd_0_0, fd_1_3, aq_5 _ _ _ _ _ ei, eq_, c1, c2, if_false, is_14, if_true, V_set14, pm_B_ite]
  grind
theorem M_routine3 : pm_V ol orc 122 [.ref 48, .int 3, .int x, .int y, .int z, .int t] (mk A I L g) = if sgOK x y z (-1) t then some (some (.int 1), mk (sA (sA (sA (sA (sA A 52 9 x) 52 10 y) 52 11 z) 53 3 (sgN x y z (-1))) 54 3 t) (sI I 48 0 0) L g) else some (some (.int 0), mk A (sI I 48 0 0) L g) := by
  have e0 : inb 9 18 := inb_nI (j := 9) (by decide) (by decide)
  have e1 : inb 10 18 := inb_nI (j := 10) (by decide) (by decide)
  have e2 : inb 11 18 := inb_nI (j := 11) (by decide) (by decide)
  have e3 : inb 3 6 := inb_nI (j := 3) (by decide) (by decide)
  have m0 : (3 : Int32) * 3 = 9 := by decide
  have m1 : (9 : Int32) + 1 = 10 := by decide
  have m2 : (9 : Int32) + 2 = 11 := by decide
  have k0 : (9 : Int32).toNatClampNeg = 9 := by decide
  have k1 : (10 : Int32).toNatClampNeg = 10 := by decide
  have k2 : (11 : Int32).toNatClampNeg = 11 := by decide
  have k3 : (3 : Int32).toNatClampNeg = 3 := by decide
  have c1 : ((3 : Int32) < 0) = False := by decide
  have c2 : ((5 : Int32) < 3) = False := by decide
  simp only [f122_0, f122_1, f122_2, f122_5, f122_6, f122_9, f122_10, f122_11, f122_14, f122_15, f122_16, f122_19, f122_22, f122_23, f122_24, f122_27, f122_30, f122_31, f122_33, f122_36, f122_39, f122_41, f122_44, f122_46, f122_49, f122_52, f122_53, f122_54, f122_55, f122_58, f122_59, f122_60, f122_61, f122_62, f122_63, f122_64, f122_67, f122_68, f122_69, f122_70, f122_71, f122_72, f122_73, f122_74, f122_75, f122_78, f122_79, f122_80, f122_81, f122_82, f122_83, f122_85, f122_86, f122_87, f122_90, f122_91, f122_92, f122_93, f122_96, f122_97, f122_100, f122_101, f122_102, f122_105, f122_106, f122_109, f122_111, f122_112, f122_115, f122_116, f122_119, f122_120, f122_121, f122_122, f122_125, f122_126, f122_128, f122_129, f122_130, v122, pm_Pv_some, pm_Ph_some, pm_B_some, pm_B_none, fs_48_0, fd_48_4, fd_48_5, fd_48_6, M_isKnown, M_mayBe, b1_0, m0, m1, m2, si_52 _ _ _ _ _ _ e0, si_52 _ _ _ _ _ _ e1, si_52 _ _ _ _ _ _ e2, si_53 _ _ _ _ _ _ e3, si_54 _ _ _ _ _ _ e3, k0, k1, k2, k3, c1, c2, if_false]
  by_cases h : sgOK x y z (-1) t
  · rw [if_pos h]
    grind
  · rw [if_neg h]
    grind
theorem V_routine4 : pm_V ol orc 101 [.ref 0, .int 4, .int x, .int y, .int z, .int t] (mk A I L g) = if sgOK x y z (-1) t then some (some (.int 1), mk (sA (sA (sA (sA A 17 0 x) 17 1 y) 17 2 z) 17 3 (-1)) (sI (sI I 16 1 (sgN x y z (-1))) 16 2 t) L g) else some (some (.int 0), mk A I L g) := by
  have ei : inb 4 6 := inb_nI (j := 4) (by decide) (by decide)
  have eq_ : va_rf (mk_q (4 : Int32).toNatClampNeg) = .ref 16 := by decide
  have c1 : ((4 : Int32) < 0) = False := by decide
  have c2 : ((6 : Int32) ≤ 4) = False := by decide
  simp only [f101_0, f101_1, f101_4, f101_5, f101_7, f101_10, f101_11, f101_12, f101_13, f101_16, f101_19, f101_20, f101_21, f101_22, f101_23, f101_25, f101_26, f101_28, f101_31, v101, pm_Pv_some, pm_Ph_some, pm_B_some, pm_B_none, fd_0_0, fd_1_3, aq_5 _ _ _ _ _ ei, eq_, c1, c2, if_false, is_16, if_true, V_set16, pm_B_ite]
  grind
theorem M_routine4 : pm_V ol orc 122 [.ref 48, .int 4, .int x, .int y, .int z, .int t] (mk A I L g) = if sgOK x y z (-1) t then some (some (.int 1), mk (sA (sA (sA (sA (sA A 52 12 x) 52 13 y) 52 14 z) 53 4 (sgN x y z (-1))) 54 4 t) (sI I 48 0 0) L g) else some (some (.int 0), mk A (sI I 48 0 0) L g) := by
  have e0 : inb 12 18 := inb_nI (j := 12) (by decide) (by decide)
  have e1 : inb 13 18 := inb_nI (j := 13) (by decide) (by decide)
  have e2 : inb 14 18 := inb_nI (j := 14) (by decide) (by decide)
  have e3 : inb 4 6 := inb_nI (j := 4) (by decide) (by decide)
  have m0 : (3 : Int32) * 4 = 12 := by decide
  have m1 : (12 : Int32) + 1 = 13 := by decide
  have m2 : (12 : Int32) + 2 = 14 := by decide
  have k0 : (12 : Int32).toNatClampNeg = 12 := by decide
  have k1 : (13 : Int32).toNatClampNeg = 13 := by decide
  have k2 : (14 : Int32).toNatClampNeg = 14 := by decide
  have k3 : (4 : Int32).toNatClampNeg = 4 := by decide
  have c1 : ((4 : Int32) < 0) = False := by decide
  have c2 : ((5 : Int32) < 4) = False := by decide
  simp only [f122_0, f122_1, f122_2, f122_5, f122_6, f122_9, f122_10, f122_11, f122_14, f122_15, f122_16, f122_19, f122_22, f122_23, f122_24, f122_27, f122_30, f122_31, f122_33, f122_36, f122_39, f122_41, f122_44, f122_46, f122_49, f122_52, f122_53, f122_54, f122_55, f122_58, f122_59, f122_60, f122_61, f122_62, f122_63, f122_64, f122_67, f122_68, f122_69, f122_70, f122_71, f122_72, f122_73, f122_74, f122_75, f122_78, f122_79, f122_80, f122_81, f122_82, f122_83, f122_85, f122_86, f122_87, f122_90, f122_91, f122_92, f122_93, f122_96, f122_97, f122_100, f122_101, f122_102, f122_105, f122_106, f122_109, f122_111, f122_112, f122_115, f122_116, f122_119, f122_120, f122_121, f122_122, f122_125, f122_126, f122_128, f122_129, f122_130, v122, pm_Pv_some, pm_Ph_some, pm_B_some, pm_B_none, fs_48_0, fd_48_4, fd_48_5, fd_48_6, M_isKnown, M_mayBe, b1_0, m0, m1, m2, si_52 _ _ _ _ _ _ e0, si_52 _ _ _ _ _ _ e1, si_52 _ _ _ _ _ _ e2, si_53 _ _ _ _ _ _ e3, si_54 _ _ _ _ _ _ e3, k0, k1, k2, k3, c1, c2, if_false]
  by_cases h : sgOK x y z (-1) t
  · rw [if_pos h]
    grind
  · rw [if_neg h]
    grind
theorem V_routine5 : pm_V ol orc 101 [.ref 0, .int 5, .int x, .int y, .int z, .int t] (mk A I L g) = if sgOK x y z (-1) t then some (some (.int 1), mk (sA (sA (sA (sA A 19 0 x) 19 1 y) 19 2 z) 19 3 (-1)) (sI (sI I 18 1 (sgN x y z (-1))) 18 2 t) L g) else some (some (.int 0), mk A I L g) := by
  have ei : inb 5 6 := inb_nI (j := 5) (by decide) (by decide)
  have eq_ : va_rf (mk_q (5 : Int32).toNatClampNeg) = .ref 18 := by decide
  have c1 : ((5 : Int32) < 0) = False := by decide
  have c2 : ((6 : Int32) ≤ 5) = False := by decide
  simp only [f101_0, f101_1, f101_4, f101_5, f101_7, f101_10, f101_11, f101_12, f101_13, f101_16, f101_19, f101_20, f101_21, f101_22, f101_23, f101_25, f101_26, f101_28, f101_31, v101, pm_Pv_some, pm_Ph_some, pm_B_some, pm_B_none, fd_0_0, fd_1_3, aq_5 _ _ _ _ _ ei, eq_, c1, c2, if_false, is_18, if_true, V_set18, pm_B_ite]
  grind
theorem M_routine5 : pm_V ol orc 122 [.ref 48, .int 5, .int x, .int y, .int z, .int t] (mk A I L g) = if sgOK x y z (-1) t then some (some (.int 1), mk (sA (sA (sA (sA (sA A 52 15 x) 52 16 y) 52 17 z) 53 5 (sgN x y z (-1))) 54 5 t) (sI I 48 0 0) L g) else some (some (.int 0), mk A (sI I 48 0 0) L g) := by
  have e0 : inb 15 18 := inb_nI (j := 15) (by decide) (by decide)
  have e1 : inb 16 18 := inb_nI (j := 16) (by decide) (by decide)
  have e2 : inb 17 18 := inb_nI (j := 17) (by decide) (by decide)
  have e3 : inb 5 6 := inb_nI (j := 5) (by decide) (by decide)
  have m0 : (3 : Int32) * 5 = 15 := by decide
  have m1 : (15 : Int32) + 1 = 16 := by decide
  have m2 : (15 : Int32) + 2 = 17 := by decide
  have k0 : (15 : Int32).toNatClampNeg = 15 := by decide
  have k1 : (16 : Int32).toNatClampNeg = 16 := by decide
  have k2 : (17 : Int32).toNatClampNeg = 17 := by decide
  have k3 : (5 : Int32).toNatClampNeg = 5 := by decide
  have c1 : ((5 : Int32) < 0) = False := by decide
  have c2 : ((5 : Int32) < 5) = False := by decide
  simp only [f122_0, f122_1, f122_2, f122_5, f122_6, f122_9, f122_10, f122_11, f122_14, f122_15, f122_16, f122_19, f122_22, f122_23, f122_24, f122_27, f122_30, f122_31, f122_33, f122_36, f122_39, f122_41, f122_44, f122_46, f122_49, f122_52, f122_53, f122_54, f122_55, f122_58, f122_59, f122_60, f122_61, f122_62, f122_63, f122_64, f122_67, f122_68, f122_69, f122_70, f122_71, f122_72, f122_73, f122_74, f122_75, f122_78, f122_79, f122_80, f122_81, f122_82, f122_83, f122_85, f122_86, f122_87, f122_90, f122_91, f122_92, f122_93, f122_96, f122_97, f122_100, f122_101, f122_102, f122_105, f122_106, f122_109, f122_111, f122_112, f122_115, f122_116, f122_119, f122_120, f122_121, f122_122, f122_125, f122_126, f122_128, f122_129, f122_130, v122, pm_Pv_some, pm_Ph_some, pm_B_some, pm_B_none, fs_48_0, fd_48_4, fd_48_5, fd_48_6, M_isKnown, M_mayBe, b1_0, m0, m1, m2, si_52 _ _ _ _ _ _ e0, si_52 _ _ _ _ _ _ e1, si_52 _ _ _ _ _ _ e2, si_53 _ _ _ _ _ _ e3, si_54 _ _ _ _ _ _ e3, k0, k1, k2, k3, c1, c2, if_false]
  by_cases h : sgOK x y z (-1) t
  · rw [if_pos h]
    grind
  · rw [if_neg h]
    grind
end FC2
