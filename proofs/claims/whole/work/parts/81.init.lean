/-! the start: what the constructors make -/
theorem fillG_l (ol : pm_O) (orc : pm_Q) {a n : Nat} (t : Int32) (hn : n ≤ 1000) (ha : a < 70) : ∀ (m k : Nat) (f : Nat → Int32) (h : pm_H), m + k = n → h[a]? = some (.inl (0, n, .inl f)) → pm_F ol orc 167 5 [(0, .ref a), (1, .int t), (2, .int (nI k)), (3, .int (nI n))] [] h = some (none, h.set a (.inl (0, n, .inl (fun j => if k ≤ j ∧ j < n then t else f j)))) := by
  intro m
  induction m with
  | zero =>
    intro k f h hk hc
    obtain rfl : k = n := by omega
    have ef : (fun j => if k ≤ j ∧ j < k then t else f j) = f := by
      funext j
      rw [if_neg (by omega)]
    have eh : h.set a (.inl (0, k, .inl f)) = h := by
      apply List.ext_getElem?
      intro i
      by_cases e : i = a
      · subst e
        rw [List.getElem?_set_self (by
          rcases Nat.lt_or_ge i h.length with y | y
          · exact y
          · rw [List.getElem?_eq_none y] at hc
            cases hc), hc]
      · rw [List.getElem?_set_ne (fun y => e y.symm)]
    rw [ef, eh, f167_5]
    simp (disch := omega) only [f167_0, f167_1, f167_2, f167_3, f167_4, f167_6, f167_7, f167_10, f167_11, f167_12, f167_13, f167_14, f167_17, f167_20, v167, pm_Pv_some, pm_Ph_some, pm_B_some, pm_B_none, is_0, fd_0_0, fd_0_1, fd_0_2, fd_0_3, fd_0_4, fd_0_5, is_1, fd_1_0, fd_1_1, fd_1_2, fd_1_3, fd_1_4, ln_2, ln_3, ln_4, is_6, fd_6_0, fd_6_1, fs_6_1, fd_6_2, fs_6_2, ln_7, is_8, fd_8_0, fd_8_1, fs_8_1, fd_8_2, fs_8_2, ln_9, is_10, fd_10_0, fd_10_1, fs_10_1, fd_10_2, fs_10_2, ln_11, is_12, fd_12_0, fd_12_1, fs_12_1, fd_12_2, fs_12_2, ln_13, is_14, fd_14_0, fd_14_1, fs_14_1, fd_14_2, fs_14_2, ln_15, is_16, fd_16_0, fd_16_1, fs_16_1, fd_16_2, fs_16_2, ln_17, is_18, fd_18_0, fd_18_1, fs_18_1, fd_18_2, fs_18_2, ln_19, is_20, fd_20_0, fd_20_1, is_21, fd_21_0, fd_21_1, fs_21_1, ln_22, ln_23, is_24, fd_24_0, fd_24_1, fs_24_1, ln_25, is_26, fd_26_0, fd_26_1, fs_26_1, fd_26_2, fd_26_3, fd_26_4, fd_26_5, fd_26_6, fs_26_6, fd_26_7, fs_26_7, fd_26_8, fs_26_8, ln_27, is_28, fd_28_0, fd_28_1, fs_28_1, ln_29, is_30, fd_30_0, fd_30_1, fd_30_2, ln_31, ln_32, is_33, fd_33_0, fd_33_1, fd_33_2, fd_33_3, fd_33_4, fs_33_4, is_34, fd_34_0, fd_34_1, fs_34_1, ln_35, ln_36, is_37, fd_37_0, fd_37_1, fd_37_2, fd_37_3, is_38, fd_38_0, fd_38_1, fd_38_2, fd_38_3, fd_38_4, fd_38_5, fd_38_6, is_39, fd_39_0, fd_39_1, fd_39_2, fs_39_2, fd_39_3, fs_39_3, is_40, fd_40_0, fd_40_1, fs_40_1, ln_41, ln_42, ln_43, ln_44, is_45, fd_45_0, fd_45_1, fd_45_2, ln_46, ln_47, is_48, fd_48_0, fs_48_0, fd_48_1, fd_48_2, fd_48_3, fd_48_4, fd_48_5, fd_48_6, fd_48_7, fd_48_8, fs_48_8, fd_48_9, fs_48_9, fd_48_10, fd_48_11, fs_48_11, fd_48_12, fd_48_13, fs_48_13, fd_48_14, fs_48_14, fd_48_15, fd_48_16, fd_48_17, fd_48_18, fs_48_18, fd_48_19, fs_48_19, fd_48_20, fd_48_21, fs_48_21, fd_48_22, fs_48_22, fd_48_23, fs_48_23, fd_48_24, fd_48_25, fd_48_26, fd_48_27, fd_48_28, fd_48_29, fd_48_30, fs_48_30, fd_48_31, ln_49, ln_50, ln_51, ln_52, ln_53, ln_54, ln_55, ln_56, ln_57, ln_58, ln_59, ln_60, ln_61, ln_62, ln_63, ln_64, ln_65, ln_66, ln_67, ln_68, aN_2, aL_2, sN_2, sL_2, aN_3, aL_3, sN_3, sL_3, aN_4, aL_4, sN_4, sL_4, aN_7, aL_7, sN_7, sL_7, aN_9, aL_9, sN_9, sL_9, aN_11, aL_11, sN_11, sL_11, aN_13, aL_13, sN_13, sL_13, aN_15, aL_15, sN_15, sL_15, aN_17, aL_17, sN_17, sL_17, aN_19, aL_19, sN_19, sL_19, aN_22, aL_22, sN_22, sL_22, aN_25, aL_25, sN_25, sL_25, aN_27, aL_27, sN_27, sL_27, aN_29, aL_29, sN_29, sL_29, aN_31, aL_31, sN_31, sL_31, aN_32, aL_32, sN_32, sL_32, aN_35, aL_35, sN_35, sL_35, aN_36, aL_36, sN_36, sL_36, aN_41, aL_41, sN_41, sL_41, aN_42, aL_42, sN_42, sL_42, aN_46, aL_46, sN_46, sL_46, aN_47, aL_47, sN_47, sL_47, aN_49, aL_49, sN_49, sL_49, aN_50, aL_50, sN_50, sL_50, aN_51, aL_51, sN_51, sL_51, aN_52, aL_52, sN_52, sL_52, aN_53, aL_53, sN_53, sL_53, aN_54, aL_54, sN_54, sL_54, aN_55, aL_55, sN_55, sL_55, aN_56, aL_56, sN_56, sL_56, aN_57, aL_57, sN_57, sL_57, aN_58, aL_58, sN_58, sL_58, aN_59, aL_59, sN_59, sL_59, aN_60, aL_60, sN_60, sL_60, aN_61, aL_61, sN_61, sL_61, aN_66, aL_66, sN_66, sL_66, aN_67, aL_67, sN_67, sL_67, aN_68, aL_68, sN_68, sL_68, aN_23, sN_23, aN_43, sN_43, aN_44, sN_44, aN_62, sN_62, aN_63, sN_63, aN_64, sN_64, aN_65, sN_65, aN_1001, aN_1002, aq_5_0, aq_5_1, aq_5_2, aq_5_3, aq_5_4, aq_5_5, q_add, q_addl, q_ladd, q_sub, q_subl, q_lsub, q_mul, q_mull, q_lmul, q_le, q_lel, q_lle, q_lt, q_ltl, q_llt, q_eq, q_eql, q_leq, q_m1, q_1m, q_cl, q_nb, q_leT, q_leF, q_ltT, q_ltF, q_eqT, q_eqF, q_10, q_01, q_em, q_bT, q_bF, q_uS, q_uN, q_sA, q_sAn, q_sFn, q_sIn, q_sAF, sF_s, sI_s, sI_sI, sF_sF, nar0, nar1, b1_0, b1_1, b1_or, if_true, if_false, not_true_eq_false, not_false_eq_true, ↓reduceIte, Int32.reduceAdd, Int32.reduceSub, Int32.reduceMul, Int32.reduceLT, Int32.reduceLE, eq_self, Nat.reduceAdd, Nat.reduceSub, Nat.reduceMul, true_or, or_true, false_or, or_false, and_true, true_and, and_false, false_and]
  | succ m ih =>
    intro k f h hk hc
    have hl : a < h.length := by
      rcases Nat.lt_or_ge a h.length with y | y
      · exact y
      · rw [List.getElem?_eq_none y] at hc
        cases hc
    have hs : pm_si h a (nI k) t = some (h.set a (.inl (0, n, .inl (upd f k t)))) := by
      have hg : pm_gi h 0 a = some (n, f) := by
        unfold pm_gi
        rw [hc, if_pos (show a < pm_M from ha)]
        rfl
      unfold pm_si
      rw [hg]
      show (if _ then _ else _) = _
      rw [clampN (by omega), if_pos (by
        have := nI_pos' (n := k) (by omega)
        refine fun y => ?_
        rcases y with y | y
        · grind
        · omega)]
    have r := ih (k + 1) (upd f k t) (h.set a (.inl (0, n, .inl (upd f k t)))) (by omega) (by rw [List.getElem?_set_self hl])
    have eq : (h.set a (.inl (0, n, .inl (upd f k t)))).set a (.inl (0, n, .inl (fun j => if k + 1 ≤ j ∧ j < n then t else upd f k t j))) = h.set a (.inl (0, n, .inl (fun j => if k ≤ j ∧ j < n then t else f j))) := by
      rw [List.set_set]
      have : (fun j => if k + 1 ≤ j ∧ j < n then t else upd f k t j) = fun j => if k ≤ j ∧ j < n then t else f j := by
        funext j
        by_cases e : j = k
        · rw [if_neg (by omega), if_pos (by omega), e, pk_us]
        · rw [pk_un e]
          by_cases e2 : k + 1 ≤ j ∧ j < n
          · rw [if_pos e2, if_pos (by omega)]
          · rw [if_neg e2, if_neg (by omega)]
      rw [this]
    rw [eq] at r
    rw [← r, f167_5]
    simp (disch := omega) only [f167_0, f167_1, f167_2, f167_3, f167_4, f167_6, f167_7, f167_10, f167_11, f167_12, f167_13, f167_14, f167_17, f167_20, v167, pm_Pv_some, pm_Ph_some, pm_B_some, pm_B_none, is_0, fd_0_0, fd_0_1, fd_0_2, fd_0_3, fd_0_4, fd_0_5, is_1, fd_1_0, fd_1_1, fd_1_2, fd_1_3, fd_1_4, ln_2, ln_3, ln_4, is_6, fd_6_0, fd_6_1, fs_6_1, fd_6_2, fs_6_2, ln_7, is_8, fd_8_0, fd_8_1, fs_8_1, fd_8_2, fs_8_2, ln_9, is_10, fd_10_0, fd_10_1, fs_10_1, fd_10_2, fs_10_2, ln_11, is_12, fd_12_0, fd_12_1, fs_12_1, fd_12_2, fs_12_2, ln_13, is_14, fd_14_0, fd_14_1, fs_14_1, fd_14_2, fs_14_2, ln_15, is_16, fd_16_0, fd_16_1, fs_16_1, fd_16_2, fs_16_2, ln_17, is_18, fd_18_0, fd_18_1, fs_18_1, fd_18_2, fs_18_2, ln_19, is_20, fd_20_0, fd_20_1, is_21, fd_21_0, fd_21_1, fs_21_1, ln_22, ln_23, is_24, fd_24_0, fd_24_1, fs_24_1, ln_25, is_26, fd_26_0, fd_26_1, fs_26_1, fd_26_2, fd_26_3, fd_26_4, fd_26_5, fd_26_6, fs_26_6, fd_26_7, fs_26_7, fd_26_8, fs_26_8, ln_27, is_28, fd_28_0, fd_28_1, fs_28_1, ln_29, is_30, fd_30_0, fd_30_1, fd_30_2, ln_31, ln_32, is_33, fd_33_0, fd_33_1, fd_33_2, fd_33_3, fd_33_4, fs_33_4, is_34, fd_34_0, fd_34_1, fs_34_1, ln_35, ln_36, is_37, fd_37_0, fd_37_1, fd_37_2, fd_37_3, is_38, fd_38_0, fd_38_1, fd_38_2, fd_38_3, fd_38_4, fd_38_5, fd_38_6, is_39, fd_39_0, fd_39_1, fd_39_2, fs_39_2, fd_39_3, fs_39_3, is_40, fd_40_0, fd_40_1, fs_40_1, ln_41, ln_42, ln_43, ln_44, is_45, fd_45_0, fd_45_1, fd_45_2, ln_46, ln_47, is_48, fd_48_0, fs_48_0, fd_48_1, fd_48_2, fd_48_3, fd_48_4, fd_48_5, fd_48_6, fd_48_7, fd_48_8, fs_48_8, fd_48_9, fs_48_9, fd_48_10, fd_48_11, fs_48_11, fd_48_12, fd_48_13, fs_48_13, fd_48_14, fs_48_14, fd_48_15, fd_48_16, fd_48_17, fd_48_18, fs_48_18, fd_48_19, fs_48_19, fd_48_20, fd_48_21, fs_48_21, fd_48_22, fs_48_22, fd_48_23, fs_48_23, fd_48_24, fd_48_25, fd_48_26, fd_48_27, fd_48_28, fd_48_29, fd_48_30, fs_48_30, fd_48_31, ln_49, ln_50, ln_51, ln_52, ln_53, ln_54, ln_55, ln_56, ln_57, ln_58, ln_59, ln_60, ln_61, ln_62, ln_63, ln_64, ln_65, ln_66, ln_67, ln_68, aN_2, aL_2, sN_2, sL_2, aN_3, aL_3, sN_3, sL_3, aN_4, aL_4, sN_4, sL_4, aN_7, aL_7, sN_7, sL_7, aN_9, aL_9, sN_9, sL_9, aN_11, aL_11, sN_11, sL_11, aN_13, aL_13, sN_13, sL_13, aN_15, aL_15, sN_15, sL_15, aN_17, aL_17, sN_17, sL_17, aN_19, aL_19, sN_19, sL_19, aN_22, aL_22, sN_22, sL_22, aN_25, aL_25, sN_25, sL_25, aN_27, aL_27, sN_27, sL_27, aN_29, aL_29, sN_29, sL_29, aN_31, aL_31, sN_31, sL_31, aN_32, aL_32, sN_32, sL_32, aN_35, aL_35, sN_35, sL_35, aN_36, aL_36, sN_36, sL_36, aN_41, aL_41, sN_41, sL_41, aN_42, aL_42, sN_42, sL_42, aN_46, aL_46, sN_46, sL_46, aN_47, aL_47, sN_47, sL_47, aN_49, aL_49, sN_49, sL_49, aN_50, aL_50, sN_50, sL_50, aN_51, aL_51, sN_51, sL_51, aN_52, aL_52, sN_52, sL_52, aN_53, aL_53, sN_53, sL_53, aN_54, aL_54, sN_54, sL_54, aN_55, aL_55, sN_55, sL_55, aN_56, aL_56, sN_56, sL_56, aN_57, aL_57, sN_57, sL_57, aN_58, aL_58, sN_58, sL_58, aN_59, aL_59, sN_59, sL_59, aN_60, aL_60, sN_60, sL_60, aN_61, aL_61, sN_61, sL_61, aN_66, aL_66, sN_66, sL_66, aN_67, aL_67, sN_67, sL_67, aN_68, aL_68, sN_68, sL_68, aN_23, sN_23, aN_43, sN_43, aN_44, sN_44, aN_62, sN_62, aN_63, sN_63, aN_64, sN_64, aN_65, sN_65, aN_1001, aN_1002, aq_5_0, aq_5_1, aq_5_2, aq_5_3, aq_5_4, aq_5_5, q_add, q_addl, q_ladd, q_sub, q_subl, q_lsub, q_mul, q_mull, q_lmul, q_le, q_lel, q_lle, q_lt, q_ltl, q_llt, q_eq, q_eql, q_leq, q_m1, q_1m, q_cl, q_nb, q_leT, q_leF, q_ltT, q_ltF, q_eqT, q_eqF, q_10, q_01, q_em, q_bT, q_bF, q_uS, q_uN, q_sA, q_sAn, q_sFn, q_sIn, q_sAF, sF_s, sI_s, sI_sI, sF_sF, nar0, nar1, b1_0, b1_1, b1_or, if_true, if_false, not_true_eq_false, not_false_eq_true, ↓reduceIte, Int32.reduceAdd, Int32.reduceSub, Int32.reduceMul, Int32.reduceLT, Int32.reduceLE, eq_self, Nat.reduceAdd, Nat.reduceSub, Nat.reduceMul, true_or, or_true, false_or, or_false, and_true, true_and, and_false, false_and, hs]
theorem fillG (ol : pm_O) (orc : pm_Q) {a n : Nat} {f : Nat → Int32} {h : pm_H} (t : Int32) (hn : n ≤ 1000) (ha : a < 70) (hc : h[a]? = some (.inl (0, n, .inl f))) : pm_V ol orc 167 [.ref a, .int t] h = some (none, h.set a (.inl (0, n, .inl (flF n t f)))) := by
  have r := fillG_l ol orc t hn ha n 0 f h (by omega) hc
  have e : (fun j => if 0 ≤ j ∧ j < n then t else f j) = flF n t f := by
    funext j
    unfold flF
    by_cases y : j < n
    · rw [if_pos y, if_pos ⟨by omega, y⟩]
    · rw [if_neg y, if_neg (fun z => y z.2)]
  have hln : pm_ln ol h a = some (.int (nI n)) := by
    have hg : pm_len ol h a = some n := by
      unfold pm_len pm_al
      rw [hc, if_pos (by omega), if_pos (show a < pm_M from ha)]
      try rfl
    unfold pm_ln
    rw [hg]
    rfl
  rw [e, show nI 0 = 0 from rfl] at r
  rw [← r]
  simp (disch := omega) only [f167_0, f167_1, f167_2, f167_3, f167_4, f167_6, f167_7, f167_10, f167_11, f167_12, f167_13, f167_14, f167_17, f167_20, v167, pm_Pv_some, pm_Ph_some, pm_B_some, pm_B_none, is_0, fd_0_0, fd_0_1, fd_0_2, fd_0_3, fd_0_4, fd_0_5, is_1, fd_1_0, fd_1_1, fd_1_2, fd_1_3, fd_1_4, ln_2, ln_3, ln_4, is_6, fd_6_0, fd_6_1, fs_6_1, fd_6_2, fs_6_2, ln_7, is_8, fd_8_0, fd_8_1, fs_8_1, fd_8_2, fs_8_2, ln_9, is_10, fd_10_0, fd_10_1, fs_10_1, fd_10_2, fs_10_2, ln_11, is_12, fd_12_0, fd_12_1, fs_12_1, fd_12_2, fs_12_2, ln_13, is_14, fd_14_0, fd_14_1, fs_14_1, fd_14_2, fs_14_2, ln_15, is_16, fd_16_0, fd_16_1, fs_16_1, fd_16_2, fs_16_2, ln_17, is_18, fd_18_0, fd_18_1, fs_18_1, fd_18_2, fs_18_2, ln_19, is_20, fd_20_0, fd_20_1, is_21, fd_21_0, fd_21_1, fs_21_1, ln_22, ln_23, is_24, fd_24_0, fd_24_1, fs_24_1, ln_25, is_26, fd_26_0, fd_26_1, fs_26_1, fd_26_2, fd_26_3, fd_26_4, fd_26_5, fd_26_6, fs_26_6, fd_26_7, fs_26_7, fd_26_8, fs_26_8, ln_27, is_28, fd_28_0, fd_28_1, fs_28_1, ln_29, is_30, fd_30_0, fd_30_1, fd_30_2, ln_31, ln_32, is_33, fd_33_0, fd_33_1, fd_33_2, fd_33_3, fd_33_4, fs_33_4, is_34, fd_34_0, fd_34_1, fs_34_1, ln_35, ln_36, is_37, fd_37_0, fd_37_1, fd_37_2, fd_37_3, is_38, fd_38_0, fd_38_1, fd_38_2, fd_38_3, fd_38_4, fd_38_5, fd_38_6, is_39, fd_39_0, fd_39_1, fd_39_2, fs_39_2, fd_39_3, fs_39_3, is_40, fd_40_0, fd_40_1, fs_40_1, ln_41, ln_42, ln_43, ln_44, is_45, fd_45_0, fd_45_1, fd_45_2, ln_46, ln_47, is_48, fd_48_0, fs_48_0, fd_48_1, fd_48_2, fd_48_3, fd_48_4, fd_48_5, fd_48_6, fd_48_7, fd_48_8, fs_48_8, fd_48_9, fs_48_9, fd_48_10, fd_48_11, fs_48_11, fd_48_12, fd_48_13, fs_48_13, fd_48_14, fs_48_14, fd_48_15, fd_48_16, fd_48_17, fd_48_18, fs_48_18, fd_48_19, fs_48_19, fd_48_20, fd_48_21, fs_48_21, fd_48_22, fs_48_22, fd_48_23, fs_48_23, fd_48_24, fd_48_25, fd_48_26, fd_48_27, fd_48_28, fd_48_29, fd_48_30, fs_48_30, fd_48_31, ln_49, ln_50, ln_51, ln_52, ln_53, ln_54, ln_55, ln_56, ln_57, ln_58, ln_59, ln_60, ln_61, ln_62, ln_63, ln_64, ln_65, ln_66, ln_67, ln_68, aN_2, aL_2, sN_2, sL_2, aN_3, aL_3, sN_3, sL_3, aN_4, aL_4, sN_4, sL_4, aN_7, aL_7, sN_7, sL_7, aN_9, aL_9, sN_9, sL_9, aN_11, aL_11, sN_11, sL_11, aN_13, aL_13, sN_13, sL_13, aN_15, aL_15, sN_15, sL_15, aN_17, aL_17, sN_17, sL_17, aN_19, aL_19, sN_19, sL_19, aN_22, aL_22, sN_22, sL_22, aN_25, aL_25, sN_25, sL_25, aN_27, aL_27, sN_27, sL_27, aN_29, aL_29, sN_29, sL_29, aN_31, aL_31, sN_31, sL_31, aN_32, aL_32, sN_32, sL_32, aN_35, aL_35, sN_35, sL_35, aN_36, aL_36, sN_36, sL_36, aN_41, aL_41, sN_41, sL_41, aN_42, aL_42, sN_42, sL_42, aN_46, aL_46, sN_46, sL_46, aN_47, aL_47, sN_47, sL_47, aN_49, aL_49, sN_49, sL_49, aN_50, aL_50, sN_50, sL_50, aN_51, aL_51, sN_51, sL_51, aN_52, aL_52, sN_52, sL_52, aN_53, aL_53, sN_53, sL_53, aN_54, aL_54, sN_54, sL_54, aN_55, aL_55, sN_55, sL_55, aN_56, aL_56, sN_56, sL_56, aN_57, aL_57, sN_57, sL_57, aN_58, aL_58, sN_58, sL_58, aN_59, aL_59, sN_59, sL_59, aN_60, aL_60, sN_60, sL_60, aN_61, aL_61, sN_61, sL_61, aN_66, aL_66, sN_66, sL_66, aN_67, aL_67, sN_67, sL_67, aN_68, aL_68, sN_68, sL_68, aN_23, sN_23, aN_43, sN_43, aN_44, sN_44, aN_62, sN_62, aN_63, sN_63, aN_64, sN_64, aN_65, sN_65, aN_1001, aN_1002, aq_5_0, aq_5_1, aq_5_2, aq_5_3, aq_5_4, aq_5_5, q_add, q_addl, q_ladd, q_sub, q_subl, q_lsub, q_mul, q_mull, q_lmul, q_le, q_lel, q_lle, q_lt, q_ltl, q_llt, q_eq, q_eql, q_leq, q_m1, q_1m, q_cl, q_nb, q_leT, q_leF, q_ltT, q_ltF, q_eqT, q_eqF, q_10, q_01, q_em, q_bT, q_bF, q_uS, q_uN, q_sA, q_sAn, q_sFn, q_sIn, q_sAF, sF_s, sI_s, sI_sI, sF_sF, nar0, nar1, b1_0, b1_1, b1_or, if_true, if_false, not_true_eq_false, not_false_eq_true, ↓reduceIte, Int32.reduceAdd, Int32.reduceSub, Int32.reduceMul, Int32.reduceLT, Int32.reduceLE, eq_self, Nat.reduceAdd, Nat.reduceSub, Nat.reduceMul, true_or, or_true, false_or, or_false, and_true, true_and, and_false, false_and, hln]
